/-! what is made, and what it may use: cells and slots (b: all, u: used) -/
abbrev uS : Type := Nat × Nat
def uP (u v : uS) : uS := (u.1 + v.1, u.2 + v.2)
def uL (u b : uS) : Prop := u.1 ≤ b.1 ∧ u.2 ≤ b.2
/-- a new thing of kind i, length N, n slots -/
def q_nw (b u : uS) (G : gS) (M : mS) (i N n : Nat) (k : Nat → uS → gS → mS → Prop) : Prop := uL (uP u (1, n)) b ∧ ∀ q, q ∉ gL G → k q (uP u (1, n)) (gNw G q i N) (wZ M q)
/-- a new row of n places -/
def q_na (b u : uS) (G : gS) (M : mS) (i : Nat) (n : Int32) (k : Nat → uS → gS → mS → Prop) : Prop := (¬ n < 0 ∧ n.toNatClampNeg ≤ 67108864) ∧ q_nw b u G M i n.toNatClampNeg n.toNatClampNeg k
/-- a row of n rows of r ints -/
def gMn (G : gS) (q n r : Nat) (f : Nat → Nat) : gS := ((gL G ++ [q]) ++ (List.range n).map f, vr_up (va_up (gK G) q 15) ((List.range n).map f) 12, vr_up (va_up (gN G) q n) ((List.range n).map f) r, vr_up (va_up (gP G) q (fun i => if i < n then some (f i) else none)) ((List.range n).map f) (fun _ => none))
def wMn (M : mS) (q n : Nat) (f : Nat → Nat) : mS := (vr_up (va_up (mI M) q (fun _ => 0)) ((List.range n).map f) (fun _ => 0), vr_up (va_up (mJ M) q (fun _ => 0)) ((List.range n).map f) (fun _ => 0))
def q_mn (b u : uS) (G : gS) (M : mS) (n r : Int32) (k : Nat → uS → gS → mS → Prop) : Prop := (¬ n < 0 ∧ ¬ r < 0 ∧ n.toNatClampNeg ≤ 67108864 ∧ r.toNatClampNeg ≤ 67108864) ∧ uL (uP u (1 + n.toNatClampNeg, n.toNatClampNeg + n.toNatClampNeg * r.toNatClampNeg)) b ∧ ∀ (q : Nat) (f : Nat → Nat), q ∉ gL G → (∀ i j : Nat, i < n.toNatClampNeg → j < n.toNatClampNeg → f i = f j → i = j) → (∀ i : Nat, i < n.toNatClampNeg → f i ∉ gL G ∧ f i ≠ q) → k q (uP u (1 + n.toNatClampNeg, n.toNatClampNeg + n.toNatClampNeg * r.toNatClampNeg)) (gMn G q n.toNatClampNeg r.toNatClampNeg f) (wMn M q n.toNatClampNeg f)
/-- a copy of the bytes of a -/
def q_cn (b u : uS) (G : gS) (M : mS) (a : Nat) (k : Nat → uS → gS → mS → Prop) : Prop := (∀ i : Nat, i < gN G a → fits .byte (.int (mI M a i)) = true) ∧ uL (uP u (1, gN G a)) b ∧ ∀ q, q ∉ gL G → k q (uP u (1, gN G a)) (gNw G q 16 (gN G a)) (wC (wZ M q) q (mI M a))
/-- a call of what makes things -/
def q_ca {α : Type} (b u : uS) (f : uS → (gS → mS → α → Prop) → Prop) (k : uS → gS → mS → α → Prop) : Prop := ∃ v : uS, uL (uP u v) b ∧ f v (fun G M r => k (uP u v) G M r)
/-- a call of a constructor of the class -/
def q_cc (b u v : uS) (f : (gS → mS → Prop) → Prop) (k : uS → gS → mS → Prop) : Prop := uL (uP u v) b ∧ f (fun G M => k (uP u v) G M)
def q_bc (sp dp n : Int32) (n0 n1 : Nat) (f : Nat → Int32) (k : Prop) : Prop := (¬ sp < 0 ∧ ¬ dp < 0 ∧ ¬ n < 0 ∧ sp.toNatClampNeg + n.toNatClampNeg ≤ n0 ∧ dp.toNatClampNeg + n.toNatClampNeg ≤ n1 ∧ ∀ i : Nat, i < n.toNatClampNeg → fits .byte (.int (f (sp.toNatClampNeg + i))) = true) ∧ k
theorem ext_wt {G G1 : gS} (h : ext G G1) {x i : Nat} (hx : x ∈ gL G) (hk : gK G x = i) : x ∈ gL G1 ∧ gK G1 x = i := ⟨(h x hx).1, (h x hx).2.trans hk⟩
theorem wt_mn {G : gS} (hG : wt G) {q n r : Nat} {f : Nat → Nat} (hq : q ∉ gL G) (hf : ∀ i, i < n → f i ∉ gL G ∧ f i ≠ q) : wt (gMn G q n r f) ∧ ext G (gMn G q n r f) ∧ q ∈ gL (gMn G q n r f) ∧ gK (gMn G q n r f) q = 15 := by
  have hqf : q ∉ (List.range n).map f := fun h => by
    obtain ⟨i, hi, e⟩ := List.mem_map.mp h
    exact (hf i (List.mem_range.mp hi)).2 e
  have hxf : ∀ x, x ∈ gL G → x ∉ (List.range n).map f := fun x hx h => by
    obtain ⟨i, hi, e⟩ := List.mem_map.mp h
    exact (hf i (List.mem_range.mp hi)).1 (e ▸ hx)
  have hK : ∀ x, x ∈ gL G → gK (gMn G q n r f) x = gK G x := fun x hx => by
    show vr_up (va_up (gK G) q 15) ((List.range n).map f) 12 x = _
    rw [vr_up_ne (hxf x hx)]
    exact up_ne (fun e : x = q => hq (e ▸ hx))
  have hKq : gK (gMn G q n r f) q = 15 := by
    show vr_up (va_up (gK G) q 15) ((List.range n).map f) 12 q = _
    rw [vr_up_ne hqf]
    exact if_pos rfl
  have hKf : ∀ x, x ∈ (List.range n).map f → gK (gMn G q n r f) x = 12 := fun x hx => vr_up_in hx
  have hL : ∀ x, x ∈ gL (gMn G q n r f) ↔ x ∈ gL G ∨ x = q ∨ x ∈ (List.range n).map f := fun x => by
    show x ∈ (gL G ++ [q]) ++ (List.range n).map f ↔ _
    rw [List.mem_append, List.mem_append, List.mem_singleton, or_assoc]
  refine ⟨fun x hx j z hz => ?_, fun x hx => ⟨(hL x).mpr (Or.inl hx), hK x hx⟩, (hL q).mpr (Or.inr (Or.inl rfl)), hKq⟩
  have hz' : vr_up (va_up (gP G) q (fun i => if i < n then some (f i) else none)) ((List.range n).map f) (fun _ => none) x j = some z := hz
  rcases (hL x).mp hx with h | h | h
  · rw [vr_up_ne (hxf x h)] at hz'
    rw [show va_up (gP G) q (fun i => if i < n then some (f i) else none) x = gP G x from up_ne (fun e : x = q => hq (e ▸ h))] at hz'
    obtain ⟨h1, h2⟩ := hG x h j z hz'
    exact ⟨(hL z).mpr (Or.inl h1), by rw [hK z h1, hK x h]; exact h2⟩
  · subst h
    rw [vr_up_ne hqf, show va_up (gP G) x (fun i => if i < n then some (f i) else none) x = _ from if_pos rfl] at hz'
    have hz' : (if j < n then some (f j) else none) = some z := hz'
    by_cases hj : j < n
    · rw [if_pos hj] at hz'
      cases hz'
      have hm : f j ∈ (List.range n).map f := List.mem_map.mpr ⟨j, List.mem_range.mpr hj, rfl⟩
      exact ⟨(hL _).mpr (Or.inr (Or.inr hm)), by rw [hKf _ hm, hKq]; rfl⟩
    · rw [if_neg hj] at hz'
      cases hz'
  · rw [vr_up_in h] at hz'
    cases hz'
section BRows
variable {p : Program} {l : Launch} {e : Env} {R : Room} {s : State} {m : MethodId} {args : Array Value} {below : List Frame} {meth : Method} {c : Code} {H : Heap} {locs : List Loc} {cells slots : Nat} {Q : State → Prop} {cc : ByteArray} {own : String} {nL : Nat} {ret : Option FieldType} {Ts : List Cond} {D : va_G} {cy : cyS} {G : gS} {M : mS} {A : Nat → Prop} {pc : Nat} {ls : Array Slot} {rest st0 : List Value} {a : Nat} {b u : uS}
theorem pl_push2 {cy : cyS} {G : gS} {M : mS} {L : List Nat} {q : Nat} {e : va_E} (hL : gL G = L ++ [q]) (he : e = pf cy G M q) : L.map (fun x => (x, pf cy G M x)) ++ [(q, e)] = pl cy G M := by
  subst he
  show _ = (gL G).map _
  rw [hL, List.map_append]
  rfl
theorem mn_id {cA : ClassId} (hK1 : va_K D vwCl (tY cy ++ [(cA, .array .int)]) s) : cA = cy.2.2.2.1 := arr_id (i := 5) (j := 3) hK1 rfl rfl
theorem mn_new {q n : Nat} {f : Nat → Nat} {e0 : va_E} {g : Nat → va_E} (hD : va_D A (([] ++ [(q, e0)]) ++ va_pl (gL G ++ (List.range n).map f) g)) : q ∉ gL G ∧ ∀ i, i < n → f i ≠ q := by
  have h0 : (([] ++ [(q, e0)]) ++ va_pl (gL G ++ (List.range n).map f) g)[0]? = some (q, e0) := rfl
  have key : ∀ x, x ∈ gL G ++ (List.range n).map f → x ≠ q := fun x hx e => by
    obtain ⟨i, hi⟩ := List.getElem?_of_mem (show (x, g x) ∈ va_pl (gL G ++ (List.range n).map f) g from List.mem_map.mpr ⟨x, hx, rfl⟩)
    have h1 : (([] ++ [(q, e0)]) ++ va_pl (gL G ++ (List.range n).map f) g)[i + 1]? = some (x, g x) := hi
    have := hD.1 _ _ _ _ h0 h1 e.symm
    omega
  exact ⟨fun h => key q (List.mem_append_left _ h) rfl, fun i hi => key _ (List.mem_append_right _ (List.mem_map.mpr ⟨i, List.mem_range.mpr hi, rfl⟩))⟩
theorem mn_pf {q n r : Nat} {f : Nat → Nat} (hq : q ∉ gL G) (hf : ∀ i, i < n → f i ∉ gL G ∧ f i ≠ q) {x : Nat} (hx : x = q ∨ x ∈ gL G ++ (List.range n).map f) : pf cy (gMn G q n r f) (wMn M q n f) x = if x = q then .inl (cy.2.2.2.1, n, .inr (.inr (.inr (.inr (fun i => if i < n then some (f i) else none))))) else vr_up (pf cy G M) ((List.range n).map f) (.inl (cy.1, (r, .inl (fun _ => 0)))) x := by
  have hqf : q ∉ (List.range n).map f := fun h => by
    obtain ⟨i, hi, e⟩ := List.mem_map.mp h
    exact (hf i (List.mem_range.mp hi)).2 e
  by_cases hxq : x = q
  · subst hxq
    rw [if_pos rfl]
    have h1 : gK (gMn G x n r f) x = 15 := (vr_up_ne hqf).trans (if_pos rfl)
    have h2 : gN (gMn G x n r f) x = n := (vr_up_ne hqf).trans (if_pos rfl)
    have h3 : gP (gMn G x n r f) x = fun i => if i < n then some (f i) else none := (vr_up_ne hqf).trans (if_pos rfl)
    rw [pf_A h1, h2, h3]
  · rw [if_neg hxq]
    by_cases hm : x ∈ (List.range n).map f
    · rw [vr_up_in hm]
      have h1 : gK (gMn G q n r f) x = 12 := vr_up_in hm
      have h2 : gN (gMn G q n r f) x = r := vr_up_in hm
      have h3 : mI (wMn M q n f) x = fun _ => 0 := vr_up_in hm
      rw [pf_I h1, h2, h3]
    · rw [vr_up_ne hm]
      exact pf_congr ((vr_up_ne hm).trans (up_ne hxq)) ((vr_up_ne hm).trans (up_ne hxq)) ((vr_up_ne hm).trans (up_ne hxq)) ((vr_up_ne hm).trans (up_ne hxq)) ((vr_up_ne hm).trans (up_ne hxq))
theorem mn_pl {q n r : Nat} {f : Nat → Nat} (hq : q ∉ gL G) (hf : ∀ i, i < n → f i ∉ gL G ∧ f i ≠ q) : pl cy (gMn G q n r f) (wMn M q n f) = (pl cy G M ++ [(q, .inl (cy.2.2.2.1, n, .inr (.inr (.inr (.inr (fun i => if i < n then some (f i) else none))))))]) ++ ((List.range n).map f).map (fun x => (x, vr_up (pf cy G M) ((List.range n).map f) (.inl (cy.1, (r, .inl (fun _ => 0)))) x)) := by
  show ((gL G ++ [q]) ++ (List.range n).map f).map (fun x => (x, pf cy (gMn G q n r f) (wMn M q n f) x)) = _
  rw [List.map_append, List.map_append]
  congr 1
  · congr 1
    · refine List.map_congr_left (fun x hx => ?_)
      have hxq : x ≠ q := fun e => hq (e ▸ hx)
      have hxf : x ∉ (List.range n).map f := fun h => by
        obtain ⟨i, hi, e⟩ := List.mem_map.mp h
        exact (hf i (List.mem_range.mp hi)).1 (e ▸ hx)
      rw [mn_pf hq hf (Or.inr (List.mem_append_left _ hx)), if_neg hxq, vr_up_ne hxf]
    · show [(q, pf cy (gMn G q n r f) (wMn M q n f) q)] = _
      rw [mn_pf hq hf (Or.inl rfl), if_pos rfl]
  · refine List.map_congr_left (fun x hx => ?_)
    have hxq : x ≠ q := fun e => by
      obtain ⟨i, hi, e2⟩ := List.mem_map.mp hx
      exact (hf i (List.mem_range.mp hi)).2 (e2.trans e)
    rw [mn_pf hq hf (Or.inr (List.mem_append_right _ hx)), if_neg hxq]
theorem mn_split {q n r : Nat} {f : Nat → Nat} (hf : ∀ i, i < n → f i ∉ gL G ∧ f i ≠ q) : va_pl (gL G ++ (List.range n).map f) (vr_up (pf cy G M) ((List.range n).map f) (.inl (cy.1, (r, .inl (fun _ => 0))))) = pl cy G M ++ ((List.range n).map f).map (fun x => (x, vr_up (pf cy G M) ((List.range n).map f) (.inl (cy.1, (r, .inl (fun _ => 0)))) x)) := by
  unfold va_pl
  rw [List.map_append]
  congr 1
  refine List.map_congr_left (fun x hx => ?_)
  have hxf : x ∉ (List.range n).map f := fun h => by
    obtain ⟨i, hi, e⟩ := List.mem_map.mp h
    exact (hf i (List.mem_range.mp hi)).1 (e ▸ hx)
  rw [vr_up_ne hxf]
theorem mn_swapP {x : Nat × va_E} {p1 p2 : va_W} {H1 : Heap} (h : va_P D vwCl (([] ++ [x]) ++ (p1 ++ p2)) H1) : va_P D vwCl ((p1 ++ [x]) ++ p2) H1 := va_P.swap (a := p1) (b := p2) (c := [x]) (va_P.swap (a := []) (b := [x]) (c := p1 ++ p2) h)
theorem mn_P {q n r : Nat} {f : Nat → Nat} {H1 : Heap} (hP : va_P D vwCl (([] ++ [(q, .inl (cy.2.2.2.1, n, .inr (.inr (.inr (.inr (fun i => if i < n then some (f i) else none))))))]) ++ va_pl (gL G ++ (List.range n).map f) (vr_up (pf cy G M) ((List.range n).map f) (.inl (cy.1, (r, .inl (fun _ => 0)))))) H1) (hq : q ∉ gL G) (hf : ∀ i, i < n → f i ∉ gL G ∧ f i ≠ q) : va_P D vwCl (pl cy (gMn G q n r f) (wMn M q n f)) H1 := by
  rw [mn_split hf] at hP
  rw [mn_pl hq hf]
  exact mn_swapP hP
theorem mn_swapD {x : Nat × va_E} {p1 p2 : va_W} (h : va_D A (([] ++ [x]) ++ (p1 ++ p2))) : va_D A ((p1 ++ [x]) ++ p2) := va_D.swap (a := p1) (b := p2) (c := [x]) (va_D.swap (a := []) (b := [x]) (c := p1 ++ p2) h)
theorem mn_D {q n r : Nat} {f : Nat → Nat} (hD : va_D A (([] ++ [(q, .inl (cy.2.2.2.1, n, .inr (.inr (.inr (.inr (fun i => if i < n then some (f i) else none))))))]) ++ va_pl (gL G ++ (List.range n).map f) (vr_up (pf cy G M) ((List.range n).map f) (.inl (cy.1, (r, .inl (fun _ => 0))))))) (hq : q ∉ gL G) (hf : ∀ i, i < n → f i ∉ gL G ∧ f i ≠ q) : va_D A (pl cy (gMn G q n r f) (wMn M q n f)) := by
  rw [mn_split hf] at hD
  rw [mn_pl hq hf]
  exact mn_swapD hD
theorem rb_newI (cx : cX p s m args meth c cc own nL ret Ts D cy G A) (w : wd D cy G M A s.heap H locs) (hR : R.cells = b.1 ∧ R.slots = b.2) (harr : Cond.arrayClass .int ∈ Ts) {n : Int32} {k : Nat → uS → gS → mS → Prop} (h : q_na b u G M 12 n k) (hdg : decode cc pc = .ok (.newarray .int, 2))
    (kk : ∀ (q : Nat) (u1 : uS) (G1 : gS) (M1 : mS) (H1 : Heap), k q u1 G1 M1 → uL u1 b → ext G G1 → q ∈ gL G1 → gK G1 q = 12 → cX p s m args meth c cc own nL ret Ts D cy G1 A → wd D cy G1 M1 A s.heap H1 locs → W p l e R s m args below meth c H1 locs u1.1 u1.2 Q (F0 m (pc + 2) ls (.ref q :: rest))) : W p l e R s m args below meth c H locs u.1 u.2 Q (F0 m pc ls (.int n :: rest)) := by
  obtain ⟨⟨h1, h2⟩, h3, h4⟩ := h
  refine r_newI cx w harr h1 rfl (by show n.toNatClampNeg * 4 ≤ _; omega) (by rw [hR.1]; exact h3.1) (by rw [hR.2]; exact h3.2) hdg (fun q H1 hq w1 cx1 => ?_)
  exact kk q _ _ _ H1 (h4 q hq) h3 (ext_nw rfl hq) (nw_Lq rfl) (nw_Kq rfl) cx1 w1
theorem rb_newB (cx : cX p s m args meth c cc own nL ret Ts D cy G A) (w : wd D cy G M A s.heap H locs) (hR : R.cells = b.1 ∧ R.slots = b.2) (harr : Cond.arrayClass .byte ∈ Ts) {n : Int32} {k : Nat → uS → gS → mS → Prop} (h : q_na b u G M 16 n k) (hdg : decode cc pc = .ok (.newarray .byte, 2))
    (kk : ∀ (q : Nat) (u1 : uS) (G1 : gS) (M1 : mS) (H1 : Heap), k q u1 G1 M1 → uL u1 b → ext G G1 → q ∈ gL G1 → gK G1 q = 16 → cX p s m args meth c cc own nL ret Ts D cy G1 A → wd D cy G1 M1 A s.heap H1 locs → W p l e R s m args below meth c H1 locs u1.1 u1.2 Q (F0 m (pc + 2) ls (.ref q :: rest))) : W p l e R s m args below meth c H locs u.1 u.2 Q (F0 m pc ls (.int n :: rest)) := by
  obtain ⟨⟨h1, h2⟩, h3, h4⟩ := h
  obtain ⟨hx, hb, hml, hown, hts, hr, hlocks, hK, hA, hG, hsx⟩ := id cx
  obtain ⟨hP, hD, hS⟩ := id w
  refine va_newa (atype := .byte) (ty := .byte) (a0 := (n.toNatClampNeg, .inl (fun _ => 0))) hx hb (hts _ harr) rfl hK hP hD hS hA (fun _ => rfl) h1 rfl (by show n.toNatClampNeg * 1 ≤ _; omega) (by rw [hR.1]; exact h3.1) (by rw [hR.2]; exact h3.2) hdg (fun q cA H1 hK1 hP1 hD1 hS1 => ?_)
  obtain rfl : cA = cy.2.2.2.2 := arr_id (i := 5) (j := 4) hK1 rfl rfl
  have hq := pl_new hD1
  have e1 := pl_push (cy := cy) (G := G) (M := M) (k := 16) (n := n.toNatClampNeg) hq (e := .inl (cy.2.2.2.2, n.toNatClampNeg, .inl (fun _ => 0))) (by rw [pf_B nwk, nwn, wZi])
  rw [e1] at hP1 hD1
  exact kk q _ _ _ H1 (h4 q hq) h3 (ext_nw rfl hq) (nw_Lq rfl) (nw_Kq rfl) (cX_G cx (wt_new hG hq)) ⟨hP1, hD1, hS1⟩
theorem rb_newA (cx : cX p s m args meth c cc own nL ret Ts D cy G A) (w : wd D cy G M A s.heap H locs) (hR : R.cells = b.1 ∧ R.slots = b.2) {index : Nat} (hlink : Cond.classLink own index "[I" ∈ Ts) {n : Int32} {k : Nat → uS → gS → mS → Prop} (h : q_na b u G M 15 n k) (hdg : decode cc pc = .ok (.anewarray index, 3))
    (kk : ∀ (q : Nat) (u1 : uS) (G1 : gS) (M1 : mS) (H1 : Heap), k q u1 G1 M1 → uL u1 b → ext G G1 → q ∈ gL G1 → gK G1 q = 15 → cX p s m args meth c cc own nL ret Ts D cy G1 A → wd D cy G1 M1 A s.heap H1 locs → W p l e R s m args below meth c H1 locs u1.1 u1.2 Q (F0 m (pc + 3) ls (.ref q :: rest))) : W p l e R s m args below meth c H locs u.1 u.2 Q (F0 m pc ls (.int n :: rest)) := by
  obtain ⟨⟨h1, h2⟩, h3, h4⟩ := h
  obtain ⟨hx, hb, hml, hown, hts, hr, hlocks, hK, hA, hG, hsx⟩ := id cx
  obtain ⟨hP, hD, hS⟩ := id w
  refine ar_new hx hb hown (hts _ hlink) hsx.2.2.2.2.2.1 hK hP hD hS hA 3 rfl h1 rfl (by omega) (by rw [hR.1]; exact h3.1) (by rw [hR.2]; exact h3.2) hdg (fun q H1 hP1 hD1 hS1 => ?_)
  have hq := pl_new hD1
  have e1 := pl_push (cy := cy) (G := G) (M := M) (k := 15) (n := n.toNatClampNeg) hq (e := .inl (cy.2.2.2.1, n.toNatClampNeg, .inr (.inr (.inr (.inr (fun _ => none)))))) (by rw [pf_A nwk, nwn, nwp])
  rw [e1] at hP1 hD1
  exact kk q _ _ _ H1 (h4 q hq) h3 (ext_nw rfl hq) (nw_Lq rfl) (nw_Kq rfl) (cX_G cx (wt_new hG hq)) ⟨hP1, hD1, hS1⟩
theorem rb_newO (cx : cX p s m args meth c cc own nL ret Ts D cy G A) (w : wd D cy G M A s.heap H locs) (hR : R.cells = b.1 ∧ R.slots = b.2) {ci N index : Nat} {C : String} {T : u_T} (ty : Nat → FieldType) (hty : ∀ k, k < N → parseFieldDescriptor (T k).2.2.1 = some (ty k)) (hc : vwCl[ci]? = some (C, T, N)) (hci : ci < 12) (hin : ∀ w ∈ u_ws C T N, w ∈ Ts) (hlink : Cond.classLink own index C ∈ Ts) (hinst : Cond.instantiable C N ∈ Ts) (hini : Cond.initialized C ∈ Ts) (hfs : ∀ j, j < N → defaultValue (ty j) = vp_V (pfs ci (fun _ => none) (fun _ => 0)) j) {k : Nat → uS → gS → mS → Prop} (h : q_nw b u G M ci 0 N k) (hdg : decode cc pc = .ok (.new index, 3))
    (kk : ∀ (q : Nat) (u1 : uS) (G1 : gS) (M1 : mS) (H1 : Heap), k q u1 G1 M1 → uL u1 b → ext G G1 → q ∈ gL G1 → gK G1 q = ci → cX p s m args meth c cc own nL ret Ts D cy G1 A → wd D cy G1 M1 A s.heap H1 locs → W p l e R s m args below meth c H1 locs u1.1 u1.2 Q (F0 m (pc + 3) ls (.ref q :: rest))) : W p l e R s m args below meth c H locs u.1 u.2 Q (F0 m pc ls rest) := by
  obtain ⟨h3, h4⟩ := h
  refine r_newO cx w ty hty hc hci hin hlink hinst hini hfs (by rw [hR.1]; exact h3.1) (by rw [hR.2]; exact h3.2) hdg (fun q H1 hq w1 cx1 => ?_)
  exact kk q _ _ _ H1 (h4 q hq) h3 (ext_nw rfl hq) (nw_Lq rfl) (nw_Kq rfl) cx1 w1
theorem rb_mn (cx : cX p s m args meth c cc own nL ret Ts D cy G A) (w : wd D cy G M A s.heap H locs) (hR : R.cells = b.1 ∧ R.slots = b.2) {index : Nat} (hlink : Cond.classLink own index "[[I" ∈ Ts) (harr : Cond.arrayClass .int ∈ Ts) {n r : Int32} {k : Nat → uS → gS → mS → Prop} (h : q_mn b u G M n r k) (hdg : decode cc pc = .ok (.multianewarray index 2, 4))
    (kk : ∀ (q : Nat) (u1 : uS) (G1 : gS) (M1 : mS) (H1 : Heap), k q u1 G1 M1 → uL u1 b → ext G G1 → q ∈ gL G1 → gK G1 q = 15 → cX p s m args meth c cc own nL ret Ts D cy G1 A → wd D cy G1 M1 A s.heap H1 locs → W p l e R s m args below meth c H1 locs u1.1 u1.2 Q (F0 m (pc + 4) ls (.ref q :: rest))) : W p l e R s m args below meth c H locs u.1 u.2 Q (F0 m pc ls (.int r :: .int n :: rest)) := by
  obtain ⟨⟨h1, h2, h5, h6⟩, h3, h4⟩ := h
  obtain ⟨hx, hb, hml, hown, hts, hr, hlocks, hK, hA, hG, hsx⟩ := id cx
  obtain ⟨hP, hD, hS⟩ := id w
  have hcy : s.vm.findClass (FieldType.array .int).toString = some cy.1 := (hK.2 0 _ rfl).2
  have h31 : u.1 + (1 + n.toNatClampNeg) ≤ b.1 := h3.1
  have h32 : u.2 + (n.toNatClampNeg + n.toNatClampNeg * r.toNatClampNeg) ≤ b.2 := h3.2
  refine va_mna (X := []) (L := gL G) (f := pf cy G M) (ty := .int) (z := (r.toNatClampNeg, .inl (fun _ => 0))) hx hb hown (hts _ hlink) hsx.2.2.2.2.2.1 (hts _ harr) hcy hK hP hD hS hA h1 h2 rfl rfl (by omega) (by show r.toNatClampNeg * 4 ≤ _; omega) (by omega) rfl rfl (by rw [hR.1]; exact h31) (by rw [hR.2]; exact h32) (fun c => arrV_new c r.toNatClampNeg (.int 0)) hdg (fun q f cA H1 hf1 hf2 hK1 hP1 hD1 hS1 => ?_)
  obtain rfl : cA = cy.2.2.2.1 := mn_id hK1
  obtain ⟨hq, hfq⟩ := mn_new hD1
  have hf3 : ∀ i : Nat, i < n.toNatClampNeg → f i ∉ gL G ∧ f i ≠ q := fun i hi => ⟨hf2 i hi, hfq i hi⟩
  obtain ⟨g1, g2, g3, g4⟩ := wt_mn (r := r.toNatClampNeg) hG hq hf3
  have hP2 := mn_P (M := M) hP1 hq hf3
  have hD2 := mn_D (M := M) hD1 hq hf3
  refine W.widen (k := (uP u (1 + n.toNatClampNeg, n.toNatClampNeg + n.toNatClampNeg * r.toNatClampNeg)).1) (n := (uP u (1 + n.toNatClampNeg, n.toNatClampNeg + n.toNatClampNeg * r.toNatClampNeg)).2) (by show u.1 + 1 + n.toNatClampNeg ≤ u.1 + (1 + n.toNatClampNeg); omega) (by show u.2 + n.toNatClampNeg + n.toNatClampNeg * r.toNatClampNeg ≤ u.2 + (n.toNatClampNeg + n.toNatClampNeg * r.toNatClampNeg); omega) ?_
  exact kk q _ _ _ H1 (h4 q f hq hf1 hf3) h3 g2 g3 g4 (cX_G cx g1) ⟨hP2, hD2, hS1⟩
theorem rb_clone (cx : cX p s m args meth c cc own nL ret Ts D cy G A) (w : wd D cy G M A s.heap H locs) (hR : R.cells = b.1 ∧ R.slots = b.2) (hml2 : c.maxLocals = ls.size) {index : Nat} (hlink : Cond.methodLink own index ⟨"[B", "clone", "()Ljava/lang/Object;"⟩ ∈ Ts) (hsame : Cond.sameMethod "[B" "java/lang/Object" "clone" "()Ljava/lang/Object;" ∈ Ts) (hnat : Cond.native ⟨"java/lang/Object", "clone", "()Ljava/lang/Object;"⟩ ∈ Ts) (hinst : Cond.instanceMethod ⟨"java/lang/Object", "clone", "()Ljava/lang/Object;"⟩ ∈ Ts) (hsel : Cond.selects "[B" ⟨"[B", "clone", "()Ljava/lang/Object;"⟩ ⟨"java/lang/Object", "clone", "()Ljava/lang/Object;"⟩ ∈ Ts) (hL : a ∈ gL G) (hk : gK G a = 16) (hframes : 1 ≤ R.frames) (hlocals : (rest.map fun v => v.category).sum + 14 ≤ R.locals) {k : Nat → uS → gS → mS → Prop} (h : q_cn b u G M a k) (hdg : decode cc pc = .ok (.invokevirtual index, 3))
    (kk : ∀ (q : Nat) (u1 : uS) (G1 : gS) (M1 : mS) (H1 : Heap), k q u1 G1 M1 → uL u1 b → ext G G1 → q ∈ gL G1 → gK G1 q = 16 → cX p s m args meth c cc own nL ret Ts D cy G1 A → wd D cy G1 M1 A s.heap H1 locs → W p l e R s m args below meth c H1 locs u1.1 u1.2 Q (F0 m (pc + 3) ls (.ref q :: rest))) : W p l e R s m args below meth c H locs u.1 u.2 Q (F0 m pc ls (.ref a :: rest)) := by
  obtain ⟨h1, h3, h4⟩ := h
  obtain ⟨hx, hb, hml, hown, hts, hr, hlocks, hK, hA, hG, hsx⟩ := id cx
  obtain ⟨hP, hD, hS⟩ := id w
  obtain ⟨q0, h0⟩ := pl_at (cy := cy) (M := M) hL
  rw [pf_B hk] at h0
  refine va_clone (ty := .byte) hx hb hml2 hown (hts _ hlink) (hts _ hsame) (hts _ hnat) (hts _ hinst) (hts _ hsel) hsx.2.2.2.1.2.2 hK hP hD hS hA q0 4 h0 rfl (hK.2 4 _ rfl).2 (fun i v hv => ?_) hframes hlocals (by rw [hR.1]; exact h3.1) (by rw [hR.2]; exact h3.2) hdg (fun q H1 hK1 hP1 hD1 hS1 => ?_)
  · rw [vp_cell_i] at hv
    have hi : i < gN G a := by
      have := (Array.getElem?_eq_some_iff.mp hv).1
      rw [arrV_size] at this
      exact this
    rw [arrV_read _ _ hi] at hv
    cases hv
    exact h1 i hi
  · have hq := pl_new hD1
    have e1 := pl_push (cy := cy) (G := G) (M := M) (k := 16) (n := gN G a) (q := q) hq (e := pf cy (gNw G q 16 (gN G a)) (wZ M q) q) rfl
    have e2 : pl cy G M ++ [(q, Sum.inl (cy.2.2.2.2, gN G a, Sum.inl (mI M a)))] = pl cy (gNw G q 16 (gN G a)) (wC (wZ M q) q (mI M a)) := by
      refine Eq.trans (congrArg (fun z => z ++ _) ?_) (pl_push2 (G := gNw G q 16 (gN G a)) (L := gL G) (M := wC (wZ M q) q (mI M a)) rfl (by rw [pf_B nwk, nwn, mI_wC_eq]))
      refine List.map_congr_left (fun x hx => ?_)
      have hxq : x ≠ q := fun e => hq (e ▸ hx)
      rw [pf_congr (G := G) (G1 := gNw G q 16 (gN G a)) (M := M) (M1 := wC (wZ M q) q (mI M a)) (up_ne hxq) (up_ne hxq) (up_ne hxq) (by rw [mI_wC_ne hxq]; exact up_ne hxq) (up_ne hxq)]
    rw [e2] at hP1 hD1
    exact kk q _ _ _ H1 (h4 q hq) h3 (ext_nw rfl hq) (nw_Lq rfl) (nw_Kq rfl) (cX_G cx (wt_new hG hq)) ⟨hP1, hD1, hS1⟩
theorem rb_putR (cx : cX p s m args meth c cc own nL ret Ts D cy G A) (w : wd D cy G M A s.heap H locs) {ci k0 N index : Nat} {C : String} {T : u_T} (ty0 : Nat → FieldType) (hty : ∀ k, k < N → parseFieldDescriptor (T k).2.2.1 = some (ty0 k)) (hnm : ∀ a, a < N → ∀ b, b < N → a ≠ b → (T a).2.1 ≠ (T b).2.1) (hL : a ∈ gL G) (hk : gK G a = ci) (hci : ci < 12) (hc : vwCl[ci]? = some (C, T, N)) (hin : ∀ w ∈ u_ws C T N, w ∈ Ts) (hkN : k0 < N) (hfin : (T k0).2.2.2 = false) {ty : FieldType} {r : Nat} (hd : parseFieldDescriptor (T k0).2.2.1 = some ty) (hn : narrow ty (.ref r) = .ref r) (hfit : fits ty (.ref r) = true) (hst : ∀ (P : Nat → Option Nat) (I : Nat → Int32), pfs ci (va_up P k0 (some r)) I = (pfs ci P I).set k0 (.ref r)) (hlen : k0 < (pfs ci (gP G a) (mI M a)).length) (hrL : r ∈ gL G) (hrK : gK G r = tk ci k0) (hlink : Cond.fieldLink own index (T k0).1 (T k0).2.1 (T k0).2.2.1 ∈ Ts) {k : gS → Prop} (h : p_sR G a k0 r k) (hdg : decode cc pc = .ok (.putfield index, 3))
    (kk : ∀ (G1 : gS) (H1 : Heap) (locs1 : List Loc), k G1 → ext G G1 → cX p s m args meth c cc own nL ret Ts D cy G1 A → wd D cy G1 M A s.heap H1 locs1 → W p l e R s m args below meth c H1 locs1 cells slots Q (F0 m (pc + 3) ls rest)) : W p l e R s m args below meth c H locs cells slots Q (F0 m pc ls (.ref r :: .ref a :: rest)) := by
  refine r_putR cx w ty0 hty hnm hL hk hci hc hin hkN hfin hd hn hfit hst hlen hrL hrK hlink hdg (fun H1 locs1 w1 cx1 => ?_)
  exact kk _ H1 locs1 h (ext_st rfl) cx1 w1
theorem rb_putRF (cx : cX p s m args meth c cc own nL ret Ts D cy G A) (w : wd D cy G M A s.heap H locs) {ci k0 N index : Nat} {C : String} {T : u_T} (ty0 : Nat → FieldType) (hty : ∀ k, k < N → parseFieldDescriptor (T k).2.2.1 = some (ty0 k)) (hnm : ∀ a, a < N → ∀ b, b < N → a ≠ b → (T a).2.1 ≠ (T b).2.1) (hL : a ∈ gL G) (hk : gK G a = ci) (hci : ci < 12) (hc : vwCl[ci]? = some (C, T, N)) (hin : ∀ w ∈ u_ws C T N, w ∈ Ts) (hkN : k0 < N) (hfin : (T k0).2.2.2 = true) (hinit : meth.name = "<init>") (hdecl : (T k0).1 = own) {ty : FieldType} {r : Nat} (hd : parseFieldDescriptor (T k0).2.2.1 = some ty) (hn : narrow ty (.ref r) = .ref r) (hfit : fits ty (.ref r) = true) (hst : ∀ (P : Nat → Option Nat) (I : Nat → Int32), pfs ci (va_up P k0 (some r)) I = (pfs ci P I).set k0 (.ref r)) (hlen : k0 < (pfs ci (gP G a) (mI M a)).length) (hrL : r ∈ gL G) (hrK : gK G r = tk ci k0) (hlink : Cond.fieldLink own index (T k0).1 (T k0).2.1 (T k0).2.2.1 ∈ Ts) {k : gS → Prop} (h : p_sR G a k0 r k) (hdg : decode cc pc = .ok (.putfield index, 3))
    (kk : ∀ (G1 : gS) (H1 : Heap) (locs1 : List Loc), k G1 → ext G G1 → cX p s m args meth c cc own nL ret Ts D cy G1 A → wd D cy G1 M A s.heap H1 locs1 → W p l e R s m args below meth c H1 locs1 cells slots Q (F0 m (pc + 3) ls rest)) : W p l e R s m args below meth c H locs cells slots Q (F0 m pc ls (.ref r :: .ref a :: rest)) := by
  refine r_putRF cx w ty0 hty hnm hL hk hci hc hin hkN hfin hinit hdecl hd hn hfit hst hlen hrL hrK hlink hdg (fun H1 locs1 w1 cx1 => ?_)
  exact kk _ H1 locs1 h (ext_st rfl) cx1 w1
theorem rb_astA (cx : cX p s m args meth c cc own nL ret Ts D cy G A) (w : wd D cy G M A s.heap H locs) (hL : a ∈ gL G) (hk : gK G a = 15) {i : Int32} {r : Nat} (hrL : r ∈ gL G) (hrK : gK G r = 12) {k : gS → Prop} (h : p_ix i (gN G a) (p_sR G a i.toNatClampNeg r k)) (hdg : decode cc pc = .ok (.aastore, 1))
    (kk : ∀ (G1 : gS) (H1 : Heap) (locs1 : List Loc), k G1 → ext G G1 → cX p s m args meth c cc own nL ret Ts D cy G1 A → wd D cy G1 M A s.heap H1 locs1 → W p l e R s m args below meth c H1 locs1 cells slots Q (F0 m (pc + 1) ls rest)) : W p l e R s m args below meth c H locs cells slots Q (F0 m pc ls (.ref r :: .int i :: .ref a :: rest)) := by
  obtain ⟨hx, hb, hml, hown, hts, hr, hlocks, hK, hA, hG, hsx⟩ := id cx
  obtain ⟨hP, hD, hS⟩ := id w
  obtain ⟨hin, h⟩ := h
  obtain ⟨q0, h1⟩ := pl_at (cy := cy) (M := M) hL
  obtain ⟨q1, h2⟩ := pl_at (cy := cy) (M := M) hrL
  have h0 := h1
  rw [pf_A hk] at h0
  rw [pf_I hrK] at h2
  refine ar_ast hx hb hK hP hD hS q0 3 q1 0 h0 rfl hsx.2.2.2.2.2.1 h2 rfl hin hdg (fun H1 locs1 hP1 hD1 hS1 => ?_)
  have e := pl_setR (j := i.toNatClampNeg) (r := r) (e := .inl (cy.2.2.2.1, gN G a, .inr (.inr (.inr (.inr (va_up (gP G a) i.toNatClampNeg (some r))))))) hD hL h1 (by rw [pf_A (G := gSt G a i.toNatClampNeg r) hk]; show _ = Sum.inl (cy.2.2.2.1, gN G a, Sum.inr (Sum.inr (Sum.inr (Sum.inr (va_up (gP G) a (va_up (gP G a) i.toNatClampNeg (some r)) a))))); rw [up_eq])
  first
    | (rw [e] at hP1 hD1; exact kk _ H1 locs1 h (ext_st rfl) (cX_G cx (wt_set hG hrL (by rw [hk]; exact hrK))) ⟨hP1, hD1, hS1⟩)
    | exact kk _ H1 locs1 h (ext_st rfl) (cX_G cx (wt_set hG hrL (by rw [hk]; exact hrK))) ⟨e ▸ hP1, e ▸ hD1, hS1⟩
theorem rb_copyB (cx : cX p s m args meth c cc own nL ret Ts D cy G A) (w : wd D cy G M A s.heap H locs) (hml2 : c.maxLocals = ls.size) {index : Nat} (hlink : (Cond.methodLink own index arraycopyName).before args s = true) (hnat : (Cond.native arraycopyName).before args s = true) (hstat : (Cond.static arraycopyName).before args s = true) (hini : (Cond.initialized "java/lang/System").before args s = true) {a0 : Nat} (hL0 : a0 ∈ gL G) (hk0 : gK G a0 = 16) (hL : a ∈ gL G) (hk : gK G a = 16) {sp dp n : Int32} {k : mS → Prop} (h : q_bc sp dp n (gN G a0) (gN G a) (mI M a0) (p_wC M a (va_cpy (mI M a0) (mI M a) sp.toNatClampNeg dp.toNatClampNeg n.toNatClampNeg) k)) (hframes : 1 ≤ R.frames) (hlocals : (rest.map fun v => v.category).sum + (nativeFrameWords "java/lang/System" "arraycopy" 5 + 11) ≤ R.locals) (hdg : decode cc pc = .ok (.invokestatic index, 3))
    (kk : ∀ (M1 : mS) (H1 : Heap) (locs1 : List Loc), k M1 → wd D cy G M1 A s.heap H1 locs1 → W p l e R s m args below meth c H1 locs1 cells slots Q (F0 m (pc + 3) ls rest)) : W p l e R s m args below meth c H locs cells slots Q (F0 m pc ls (.int n :: .int dp :: .ref a :: .int sp :: .ref a0 :: rest)) := by
  obtain ⟨⟨g1, g2, g3, g4, g5, g6⟩, h⟩ := h
  obtain ⟨hx, hb, hml, hown, hts, hr, hlocks, hK, hA, hG, hsx⟩ := id cx
  obtain ⟨hP, hD, hS⟩ := id w
  obtain ⟨q0, h0⟩ := pl_at (cy := cy) (M := M) hL0
  obtain ⟨q1, h1⟩ := pl_at (cy := cy) (M := M) hL
  have h2 := h1
  rw [pf_B hk0] at h0
  rw [pf_B hk] at h2
  refine va_copyi hx hb hml2 hown hlink hnat hstat hini hK hP hD hS q0 q1 4 4 (ty := .byte) h0 h2 rfl rfl rfl g1 g2 g3 g4 g5 g6 hframes hlocals hdg (fun H1 locs1 hP1 hD1 hS1 => ?_)
  have e := pl_set (e := .inl (cy.2.2.2.2, gN G a, .inl (va_cpy (mI M a0) (mI M a) sp.toNatClampNeg dp.toNatClampNeg n.toNatClampNeg))) (M1 := wC M a (va_cpy (mI M a0) (mI M a) sp.toNatClampNeg dp.toNatClampNeg n.toNatClampNeg)) hD hL h1 (by rw [pf_B hk, mI_wC_eq]) (fun b hb => pf_other (by rw [mI_wC_ne hb]) rfl)
  rw [e] at hP1 hD1
  exact kk _ H1 locs1 h ⟨hP1, hD1, hS1⟩
theorem rb_copyT (cx : cX p s m args meth c cc own nL ret Ts D cy G A) (w : wd D cy G M A s.heap H locs) (hml2 : c.maxLocals = ls.size) {index : Nat} (hlink : (Cond.methodLink own index arraycopyName).before args s = true) (hnat : (Cond.native arraycopyName).before args s = true) (hstat : (Cond.static arraycopyName).before args s = true) (hini : (Cond.initialized "java/lang/System").before args s = true) {i : Nat} (hi : i < 36) (hL : a ∈ gL G) (hk : gK G a = 16) {sp dp n : Int32} {k : mS → Prop} (h : q_bc sp dp n (sN i) (gN G a) (sB i) (p_wC M a (va_cpy (sB i) (mI M a) sp.toNatClampNeg dp.toNatClampNeg n.toNatClampNeg) k)) (hframes : 1 ≤ R.frames) (hlocals : (rest.map fun v => v.category).sum + (nativeFrameWords "java/lang/System" "arraycopy" 5 + 11) ≤ R.locals) (hdg : decode cc pc = .ok (.invokestatic index, 3))
    (kk : ∀ (M1 : mS) (H1 : Heap) (locs1 : List Loc), k M1 → wd D cy G M1 A s.heap H1 locs1 → W p l e R s m args below meth c H1 locs1 cells slots Q (F0 m (pc + 3) ls rest)) : W p l e R s m args below meth c H locs cells slots Q (F0 m pc ls (.int n :: .int dp :: .ref a :: .int sp :: .ref (stV D i) :: rest)) := by
  obtain ⟨⟨g1, g2, g3, g4, g5, g6⟩, h⟩ := h
  obtain ⟨hx, hb, hml, hown, hts, hr, hlocks, hK, hA, hG, hsx⟩ := id cx
  obtain ⟨hP, hD, hS⟩ := id w
  obtain ⟨q1, h1⟩ := pl_at (cy := cy) (M := M) hL
  have h2 := h1
  rw [pf_B hk] at h2
  refine vk_copyt hx hb hml2 hown hlink hnat hstat hini hK hP hD hS (hsx.2.2.2.2.2.2.1.1 i hi).2.2.2 q1 4 h2 rfl g1 g2 g3 g4 g5 g6 hframes hlocals hdg (fun H1 locs1 hP1 hD1 hS1 => ?_)
  have e := pl_set (e := .inl (cy.2.2.2.2, gN G a, .inl (va_cpy (sB i) (mI M a) sp.toNatClampNeg dp.toNatClampNeg n.toNatClampNeg))) (M1 := wC M a (va_cpy (sB i) (mI M a) sp.toNatClampNeg dp.toNatClampNeg n.toNatClampNeg)) hD hL h1 (by rw [pf_B hk, mI_wC_eq]) (fun b hb => pf_other (by rw [mI_wC_ne hb]) rfl)
  have hP2 : va_P D vwCl ((pl cy G M).set q1 (a, .inl (cy.2.2.2.2, gN G a, .inl (va_cpy (sB i) (mI M a) sp.toNatClampNeg dp.toNatClampNeg n.toNatClampNeg)))) H1 := hP1
  have hD2 : va_D A ((pl cy G M).set q1 (a, .inl (cy.2.2.2.2, gN G a, .inl (va_cpy (sB i) (mI M a) sp.toNatClampNeg dp.toNatClampNeg n.toNatClampNeg)))) := hD1
  rw [e] at hP2 hD2
  exact kk _ H1 locs1 h ⟨hP2, hD2, hS1⟩
theorem rb_castB (cx : cX p s m args meth c cc own nL ret Ts D cy G A) (w : wd D cy G M A s.heap H locs) {index : Nat} (hlink : Cond.classLink own index "[B" ∈ Ts) (hL : a ∈ gL G) (hk : gK G a = 16) (hdg : decode cc pc = .ok (.checkcast index, 3)) (kk : W p l e R s m args below meth c H locs cells slots Q (F0 m (pc + 3) ls (.ref a :: rest))) : W p l e R s m args below meth c H locs cells slots Q (F0 m pc ls (.ref a :: rest)) := by
  obtain ⟨hx, hb, hml, hown, hts, hr, hlocks, hK, hA, hG, hsx⟩ := id cx
  obtain ⟨hP, hD, hS⟩ := id w
  obtain ⟨q0, h0⟩ := pl_at (cy := cy) (M := M) hL
  rw [pf_B hk] at h0
  exact va_castA hx hb hown (hts _ hlink) hP q0 h0 (hK.2 4 _ rfl).2 hdg kk
end BRows
def cbV (l : Launch) (y : MethodName) (ws : List Cond) (rm : Room) (D : va_G) (cy : cyS) (G0 : gS) (M : mS) (av : List Value) (v : uS) (post : gS → mS → Unit → Prop) : Prop := ∀ sz : Nat, Met l y ws rm (va_Pc av (wIn D cy G0 M sz)) (va_Qv (fun (u : gS × mS) => post u.1 u.2 ()) (fun u t => va_P D vwCl (pl cy u.1 u.2) t.heap ∧ va_D (pA G0 sz) (pl cy u.1 u.2) ∧ wt u.1 ∧ ext G0 u.1) (pA G0 sz)) v.1 v.2 (pA G0 sz)
def cbI (l : Launch) (y : MethodName) (ws : List Cond) (rm : Room) (D : va_G) (cy : cyS) (G0 : gS) (M : mS) (av : List Value) (v : uS) (post : gS → mS → Int32 → Prop) : Prop := ∀ sz : Nat, Met l y ws rm (va_Pc av (wIn D cy G0 M sz)) (va_Qi (fun (r : Int32) (u : gS × mS) => post u.1 u.2 r) (fun u t => va_P D vwCl (pl cy u.1 u.2) t.heap ∧ va_D (pA G0 sz) (pl cy u.1 u.2) ∧ wt u.1 ∧ ext G0 u.1) (pA G0 sz)) v.1 v.2 (pA G0 sz)
def cbR (kr : Nat) (l : Launch) (y : MethodName) (ws : List Cond) (rm : Room) (D : va_G) (cy : cyS) (G0 : gS) (M : mS) (av : List Value) (v : uS) (post : gS → mS → Nat → Prop) : Prop := ∀ sz : Nat, Met l y ws rm (va_Pc av (wIn D cy G0 M sz)) (va_Qr (fun (u : gS × mS × Nat) => post u.1 u.2.1 u.2.2) (fun u x t => x = u.2.2 ∧ (x ∈ gL u.1 ∧ gK u.1 x = kr) ∧ va_P D vwCl (pl cy u.1 u.2.1) t.heap ∧ va_D (pA G0 sz) (pl cy u.1 u.2.1) ∧ wt u.1 ∧ ext G0 u.1) (pA G0 sz)) v.1 v.2 (pA G0 sz)
section BMet
variable {p : Program} {l : Launch} {e : Env} {R : Room} {s : State} {m : MethodId} {args : Array Value} {below : List Frame} {meth : Method} {c : Code} {H : Heap} {locs : List Loc} {cells slots : Nat} {Q : State → Prop} {cc : ByteArray} {own : String} {nL : Nat} {ret : Option FieldType} {Ts : List Cond} {D : va_G} {cy : cyS} {G : gS} {M : mS} {A : Nat → Prop} {pc : Nat} {ls : Array Slot} {rest st0 : List Value} {a : Nat} {b u : uS}
theorem cbV_of {y : MethodName} {ws ws' : List Cond} {rm : Room} {av : List Value} {lv : List (Nat × Value)} {v : uS} {post : gS → mS → Unit → Prop} {G0 : gS} (hG : wt G0) (hy : plainName y.cls = true) (hw : ws = Cond.code y cc nL none :: ws') (hn : (lg_sl av).length ≤ nL) (hlv : lv_args 0 av = lv) (body : ∀ (p : Program) (e : Env) (s : State) (m : MethodId) (args : Array Value) (below : List Frame) (meth : Method) (c : Code) (sz : Nat) (ls : Array Slot), meth.name = y.name → cX p s m args meth c cc y.cls nL none ws D cy G0 (pA G0 sz) → wd D cy G0 M (pA G0 sz) s.heap s.heap [] → lv_has ls nL lv → W p l e rm s m args below meth c s.heap [] (0, 0).1 (0, 0).2 (MQ below (va_Qv (fun (u : gS × mS) => post u.1 u.2 ()) (fun u t => va_P D vwCl (pl cy u.1 u.2) t.heap ∧ va_D (pA G0 sz) (pl cy u.1 u.2) ∧ wt u.1 ∧ ext G0 u.1) (pA G0 sz)) args s v.1 v.2 (pA G0 sz)) (F0 m 0 ls [])) : cbV l y ws rm D cy G0 M av v post := by
  intro sz
  refine Met.ofW (cc := cc) (maxL := nL) (ret := none) hy hw ?_
  intro p e s m args below meth c s₁ B hml hv
  obtain ⟨rfl, hsz, hP, hK, hD0, hsx⟩ := hv
  subst hsz
  rw [lg_entry_eq]
  have hl := lv_entry av (n := nL) hn
  rw [hlv] at hl
  have hD : va_D (pA G0 s.heap.size) (pl cy G0 M) := pl_D hD0 (fun q hq => Or.inl hq)
  exact body p e s m _ below meth c s.heap.size _ (name_of_methodNamed B.named B.method).1 ⟨B.exec, B.bytes, hml, findClass_of_methodNamed B.named, atoms_spec (ws := ws) B.pre, B.returns, B.notSynchronized, hK, fun q h => Or.inr h, hG, hsx⟩ ⟨hP, hD, va_S.rf⟩ hl
theorem cbI_of {y : MethodName} {ws ws' : List Cond} {rm : Room} {av : List Value} {lv : List (Nat × Value)} {v : uS} {post : gS → mS → Int32 → Prop} {G0 : gS} (hG : wt G0) (hy : plainName y.cls = true) (hw : ws = Cond.code y cc nL ret :: ws') (hn : (lg_sl av).length ≤ nL) (hlv : lv_args 0 av = lv) (body : ∀ (p : Program) (e : Env) (s : State) (m : MethodId) (args : Array Value) (below : List Frame) (meth : Method) (c : Code) (sz : Nat) (ls : Array Slot), meth.name = y.name → cX p s m args meth c cc y.cls nL ret ws D cy G0 (pA G0 sz) → wd D cy G0 M (pA G0 sz) s.heap s.heap [] → lv_has ls nL lv → W p l e rm s m args below meth c s.heap [] (0, 0).1 (0, 0).2 (MQ below (va_Qi (fun (r : Int32) (u : gS × mS) => post u.1 u.2 r) (fun u t => va_P D vwCl (pl cy u.1 u.2) t.heap ∧ va_D (pA G0 sz) (pl cy u.1 u.2) ∧ wt u.1 ∧ ext G0 u.1) (pA G0 sz)) args s v.1 v.2 (pA G0 sz)) (F0 m 0 ls [])) : cbI l y ws rm D cy G0 M av v post := by
  intro sz
  refine Met.ofW (cc := cc) (maxL := nL) (ret := ret) hy hw ?_
  intro p e s m args below meth c s₁ B hml hv
  obtain ⟨rfl, hsz, hP, hK, hD0, hsx⟩ := hv
  subst hsz
  rw [lg_entry_eq]
  have hl := lv_entry av (n := nL) hn
  rw [hlv] at hl
  have hD : va_D (pA G0 s.heap.size) (pl cy G0 M) := pl_D hD0 (fun q hq => Or.inl hq)
  exact body p e s m _ below meth c s.heap.size _ (name_of_methodNamed B.named B.method).1 ⟨B.exec, B.bytes, hml, findClass_of_methodNamed B.named, atoms_spec (ws := ws) B.pre, B.returns, B.notSynchronized, hK, fun q h => Or.inr h, hG, hsx⟩ ⟨hP, hD, va_S.rf⟩ hl
theorem cbR_of {kr : Nat} {y : MethodName} {ws ws' : List Cond} {rm : Room} {av : List Value} {lv : List (Nat × Value)} {v : uS} {post : gS → mS → Nat → Prop} {G0 : gS} (hG : wt G0) (hy : plainName y.cls = true) (hw : ws = Cond.code y cc nL ret :: ws') (hn : (lg_sl av).length ≤ nL) (hlv : lv_args 0 av = lv) (body : ∀ (p : Program) (e : Env) (s : State) (m : MethodId) (args : Array Value) (below : List Frame) (meth : Method) (c : Code) (sz : Nat) (ls : Array Slot), meth.name = y.name → cX p s m args meth c cc y.cls nL ret ws D cy G0 (pA G0 sz) → wd D cy G0 M (pA G0 sz) s.heap s.heap [] → lv_has ls nL lv → W p l e rm s m args below meth c s.heap [] (0, 0).1 (0, 0).2 (MQ below (va_Qr (fun (u : gS × mS × Nat) => post u.1 u.2.1 u.2.2) (fun u x t => x = u.2.2 ∧ (x ∈ gL u.1 ∧ gK u.1 x = kr) ∧ va_P D vwCl (pl cy u.1 u.2.1) t.heap ∧ va_D (pA G0 sz) (pl cy u.1 u.2.1) ∧ wt u.1 ∧ ext G0 u.1) (pA G0 sz)) args s v.1 v.2 (pA G0 sz)) (F0 m 0 ls [])) : cbR kr l y ws rm D cy G0 M av v post := by
  intro sz
  refine Met.ofW (cc := cc) (maxL := nL) (ret := ret) hy hw ?_
  intro p e s m args below meth c s₁ B hml hv
  obtain ⟨rfl, hsz, hP, hK, hD0, hsx⟩ := hv
  subst hsz
  rw [lg_entry_eq]
  have hl := lv_entry av (n := nL) hn
  rw [hlv] at hl
  have hD : va_D (pA G0 s.heap.size) (pl cy G0 M) := pl_D hD0 (fun q hq => Or.inl hq)
  exact body p e s m _ below meth c s.heap.size _ (name_of_methodNamed B.named B.method).1 ⟨B.exec, B.bytes, hml, findClass_of_methodNamed B.named, atoms_spec (ws := ws) B.pre, B.returns, B.notSynchronized, hK, fun q h => Or.inr h, hG, hsx⟩ ⟨hP, hD, va_S.rf⟩ hl
theorem rb_vret {post : gS → mS → Unit → Prop} {G0 : gS} {sz : Nat} (h : post G M ()) (cx : cX p s m args meth c cc own nL none Ts D cy G (pA G0 sz)) (w : wd D cy G M (pA G0 sz) s.heap H locs) (hext : ext G0 G) (hu : uL u b) (hdg : decode cc pc = .ok (.return_, 1)) : W p l e R s m args below meth c H locs u.1 u.2 (MQ below (va_Qv (fun (u : gS × mS) => post u.1 u.2 ()) (fun u t => va_P D vwCl (pl cy u.1 u.2) t.heap ∧ va_D (pA G0 sz) (pl cy u.1 u.2) ∧ wt u.1 ∧ ext G0 u.1) (pA G0 sz)) args s b.1 b.2 (pA G0 sz)) (F0 m pc ls []) := by
  obtain ⟨hx, hb, hml, hown, hts, hr, hlocks, hK, hA, hG, hsx⟩ := cx
  refine W.widen (k := b.1) (n := b.2) hu.1 hu.2 ?_
  exact W.vret hx hb hr (fun t ht hW => ⟨⟨(G, M), rfl, h, by rw [ht]; exact w.1, w.2.1, hG, hext⟩, w.2.2.F ht⟩) w.2.2.2.2 hdg hlocks
theorem rb_iret {post : gS → mS → Int32 → Prop} {G0 : gS} {sz : Nat} {r : Int32} (h : post G M r) (cx : cX p s m args meth c cc own nL (some .int) Ts D cy G (pA G0 sz)) (w : wd D cy G M (pA G0 sz) s.heap H locs) (hext : ext G0 G) (hu : uL u b) (hdg : decode cc pc = .ok (.ireturn, 1)) : W p l e R s m args below meth c H locs u.1 u.2 (MQ below (va_Qi (fun (r : Int32) (u : gS × mS) => post u.1 u.2 r) (fun u t => va_P D vwCl (pl cy u.1 u.2) t.heap ∧ va_D (pA G0 sz) (pl cy u.1 u.2) ∧ wt u.1 ∧ ext G0 u.1) (pA G0 sz)) args s b.1 b.2 (pA G0 sz)) (F0 m pc ls [.int r]) := by
  obtain ⟨hx, hb, hml, hown, hts, hr, hlocks, hK, hA, hG, hsx⟩ := cx
  refine W.widen (k := b.1) (n := b.2) hu.1 hu.2 ?_
  exact W.iret hx hb hr (fun t ht hW => ⟨⟨r, (G, M), rfl, h, by rw [ht]; exact w.1, w.2.1, hG, hext⟩, w.2.2.F ht⟩) w.2.2.2.2 hdg hlocks
theorem rb_nret {post : gS → mS → Int32 → Prop} {G0 : gS} {sz : Nat} {ty : FieldType} {r : Int32} (hn : narrow ty (.int r) = .int r) (h : post G M r) (cx : cX p s m args meth c cc own nL (some ty) Ts D cy G (pA G0 sz)) (w : wd D cy G M (pA G0 sz) s.heap H locs) (hext : ext G0 G) (hu : uL u b) (hdg : decode cc pc = .ok (.ireturn, 1)) : W p l e R s m args below meth c H locs u.1 u.2 (MQ below (va_Qi (fun (r : Int32) (u : gS × mS) => post u.1 u.2 r) (fun u t => va_P D vwCl (pl cy u.1 u.2) t.heap ∧ va_D (pA G0 sz) (pl cy u.1 u.2) ∧ wt u.1 ∧ ext G0 u.1) (pA G0 sz)) args s b.1 b.2 (pA G0 sz)) (F0 m pc ls [.int r]) := by
  obtain ⟨hx, hb, hml, hown, hts, hr, hlocks, hK, hA, hG, hsx⟩ := cx
  refine W.widen (k := b.1) (n := b.2) hu.1 hu.2 ?_
  exact W.zret (ty := ty) hx hb hr hn (fun t ht hW => ⟨⟨r, (G, M), rfl, h, by rw [ht]; exact w.1, w.2.1, hG, hext⟩, w.2.2.F ht⟩) w.2.2.2.2 hdg hlocks
theorem rb_aret {kr : Nat} {post : gS → mS → Nat → Prop} {G0 : gS} {sz : Nat} {rt : FieldType} (hrt : (∃ n, rt = .object n) ∨ ∃ t, rt = .array t) {r : Nat} (hL : r ∈ gL G) (hk : gK G r = kr) (h : post G M r) (cx : cX p s m args meth c cc own nL (some rt) Ts D cy G (pA G0 sz)) (w : wd D cy G M (pA G0 sz) s.heap H locs) (hext : ext G0 G) (hu : uL u b) (hdg : decode cc pc = .ok (.areturn, 1)) : W p l e R s m args below meth c H locs u.1 u.2 (MQ below (va_Qr (fun (u : gS × mS × Nat) => post u.1 u.2.1 u.2.2) (fun u x t => x = u.2.2 ∧ (x ∈ gL u.1 ∧ gK u.1 x = kr) ∧ va_P D vwCl (pl cy u.1 u.2.1) t.heap ∧ va_D (pA G0 sz) (pl cy u.1 u.2.1) ∧ wt u.1 ∧ ext G0 u.1) (pA G0 sz)) args s b.1 b.2 (pA G0 sz)) (F0 m pc ls [.ref r]) := by
  obtain ⟨hx, hb, hml, hown, hts, hr, hlocks, hK, hA, hG, hsx⟩ := cx
  refine W.widen (k := b.1) (n := b.2) hu.1 hu.2 ?_
  exact W.aret (rt := rt) hx hb hr hrt (Or.inr ⟨r, rfl⟩) (fun t ht hW => ⟨⟨(G, M, r), r, rfl, h, rfl, ⟨hL, hk⟩, by rw [ht]; exact w.1, w.2.1, hG, hext⟩, w.2.2.F ht⟩) w.2.2.2.2 hdg hlocks
theorem rb_VV {y : MethodName} {bytes : ByteArray} {maxL n index : Nat} {yret : Option FieldType} {ws : List Cond} {rf rl : Nat} {As : List Value} (cx : cX p s m args meth c cc own nL ret Ts D cy G A) (w : wd D cy G M A s.heap H locs) (hR : R.cells = b.1 ∧ R.slots = b.2) (hls : ls.size = nL) {f : uS → (gS → mS → Unit → Prop) → Prop} {k : uS → gS → mS → Unit → Prop} (h : q_ca b u f k) (hM : ∀ {v : uS} {post : gS → mS → Unit → Prop}, f v post → cbV l y ws { frames := rf, cells := v.1, slots := v.2, locals := rl } D cy G M (.ref a :: As) v post) {C : String} (cw : ∀ v : uS, CallW R s args own C index y bytes maxL yret ws { frames := rf, cells := v.1, slots := v.2, locals := rl } v.1 v.2 n) {ci : Nat} {T : u_T} {N : Nat} (hL : a ∈ gL G) (hk : gK G a = ci) (hci : ci < 12) (hc : vwCl[ci]? = some (C, T, N)) (hn : As.length = n) (hst : st0 = As.reverse ++ .ref a :: rest) (hW : (rest.map fun v => v.category).sum ≤ 8) (hdg : decode cc pc = .ok (.invokevirtual index, 3))
    (kk : ∀ (u1 : uS) (G1 : gS) (M1 : mS) (r : Unit) (H1 : Heap) (locs1 : List Loc), k u1 G1 M1 r → uL u1 b → ext G G1 → cX p s m args meth c cc own nL ret Ts D cy G1 A → wd D cy G1 M1 A s.heap H1 locs1 → W p l e R s m args below meth c H1 locs1 u1.1 u1.2 Q (F0 m (pc + 3) ls rest)) : W p l e R s m args below meth c H locs u.1 u.2 Q (F0 m pc ls st0) := by
  obtain ⟨v, hv, h⟩ := h
  have cw := cw v
  have fr := wd_free cx w
  obtain ⟨hx, hb, hml, hown, hts, hr, hlocks, hK, hA, hG, hsx⟩ := id cx
  refine va_callv (va_runV (As := As) (rest := rest) ⟨hx, hb, hml, hown, hts⟩ (hM h H.size) cw ⟨blind _ D cy G M H.size, wd_recv cx w hL hk hci hc, wd_pre cx w _⟩ rfl hn hls hst (lv_room hW) hdg ⟨by rw [hR.1]; exact hv.1, by rw [hR.2]; exact hv.2⟩) w.2.2 (fun q _ h => fr q h) fr (fun x t H1 locs1 ht hvm hq hB hz1 hk1 hS => ?_)
  obtain ⟨hP1, hD1, hG1, hE1⟩ := hB
  rw [ht] at hP1
  exact kk (uP u v) x.1 x.2 () H1 locs1 hq hv hE1 (cX_G cx hG1) ⟨hP1, ⟨hD1.1, fun k q h => fr _ (hD1.2 k q h)⟩, hS⟩
theorem rb_VI {y : MethodName} {bytes : ByteArray} {maxL n index : Nat} {yret : Option FieldType} {ws : List Cond} {rf rl : Nat} {As : List Value} (cx : cX p s m args meth c cc own nL ret Ts D cy G A) (w : wd D cy G M A s.heap H locs) (hR : R.cells = b.1 ∧ R.slots = b.2) (hls : ls.size = nL) {f : uS → (gS → mS → Int32 → Prop) → Prop} {k : uS → gS → mS → Int32 → Prop} (h : q_ca b u f k) (hM : ∀ {v : uS} {post : gS → mS → Int32 → Prop}, f v post → cbI l y ws { frames := rf, cells := v.1, slots := v.2, locals := rl } D cy G M (.ref a :: As) v post) {C : String} (cw : ∀ v : uS, CallW R s args own C index y bytes maxL yret ws { frames := rf, cells := v.1, slots := v.2, locals := rl } v.1 v.2 n) {ci : Nat} {T : u_T} {N : Nat} (hL : a ∈ gL G) (hk : gK G a = ci) (hci : ci < 12) (hc : vwCl[ci]? = some (C, T, N)) (hn : As.length = n) (hst : st0 = As.reverse ++ .ref a :: rest) (hW : (rest.map fun v => v.category).sum ≤ 8) (hdg : decode cc pc = .ok (.invokevirtual index, 3))
    (kk : ∀ (u1 : uS) (G1 : gS) (M1 : mS) (r : Int32) (H1 : Heap) (locs1 : List Loc), k u1 G1 M1 r → uL u1 b → ext G G1 → cX p s m args meth c cc own nL ret Ts D cy G1 A → wd D cy G1 M1 A s.heap H1 locs1 → W p l e R s m args below meth c H1 locs1 u1.1 u1.2 Q (F0 m (pc + 3) ls (.int r :: rest))) : W p l e R s m args below meth c H locs u.1 u.2 Q (F0 m pc ls st0) := by
  obtain ⟨v, hv, h⟩ := h
  have cw := cw v
  have fr := wd_free cx w
  obtain ⟨hx, hb, hml, hown, hts, hr, hlocks, hK, hA, hG, hsx⟩ := id cx
  refine va_calli (va_runV (As := As) (rest := rest) ⟨hx, hb, hml, hown, hts⟩ (hM h H.size) cw ⟨blind _ D cy G M H.size, wd_recv cx w hL hk hci hc, wd_pre cx w _⟩ rfl hn hls hst (lv_room hW) hdg ⟨by rw [hR.1]; exact hv.1, by rw [hR.2]; exact hv.2⟩) w.2.2 (fun q _ h => fr q h) fr (fun r1 x t H1 locs1 ht hvm hq hB hz1 hk1 hS => ?_)
  obtain ⟨hP1, hD1, hG1, hE1⟩ := hB
  rw [ht] at hP1
  exact kk (uP u v) x.1 x.2 r1 H1 locs1 hq hv hE1 (cX_G cx hG1) ⟨hP1, ⟨hD1.1, fun k q h => fr _ (hD1.2 k q h)⟩, hS⟩
theorem rb_VR {kr : Nat} {y : MethodName} {bytes : ByteArray} {maxL n index : Nat} {yret : Option FieldType} {ws : List Cond} {rf rl : Nat} {As : List Value} (cx : cX p s m args meth c cc own nL ret Ts D cy G A) (w : wd D cy G M A s.heap H locs) (hR : R.cells = b.1 ∧ R.slots = b.2) (hls : ls.size = nL) {f : uS → (gS → mS → Nat → Prop) → Prop} {k : uS → gS → mS → Nat → Prop} (h : q_ca b u f k) (hM : ∀ {v : uS} {post : gS → mS → Nat → Prop}, f v post → cbR kr l y ws { frames := rf, cells := v.1, slots := v.2, locals := rl } D cy G M (.ref a :: As) v post) {C : String} (cw : ∀ v : uS, CallW R s args own C index y bytes maxL yret ws { frames := rf, cells := v.1, slots := v.2, locals := rl } v.1 v.2 n) {ci : Nat} {T : u_T} {N : Nat} (hL : a ∈ gL G) (hk : gK G a = ci) (hci : ci < 12) (hc : vwCl[ci]? = some (C, T, N)) (hn : As.length = n) (hst : st0 = As.reverse ++ .ref a :: rest) (hW : (rest.map fun v => v.category).sum ≤ 8) (hdg : decode cc pc = .ok (.invokevirtual index, 3))
    (kk : ∀ (u1 : uS) (G1 : gS) (M1 : mS) (r : Nat) (H1 : Heap) (locs1 : List Loc), k u1 G1 M1 r → uL u1 b → ext G G1 → r ∈ gL G1 → gK G1 r = kr → cX p s m args meth c cc own nL ret Ts D cy G1 A → wd D cy G1 M1 A s.heap H1 locs1 → W p l e R s m args below meth c H1 locs1 u1.1 u1.2 Q (F0 m (pc + 3) ls (.ref r :: rest))) : W p l e R s m args below meth c H locs u.1 u.2 Q (F0 m pc ls st0) := by
  obtain ⟨v, hv, h⟩ := h
  have cw := cw v
  have fr := wd_free cx w
  obtain ⟨hx, hb, hml, hown, hts, hr, hlocks, hK, hA, hG, hsx⟩ := id cx
  refine va_callr (va_runV (As := As) (rest := rest) ⟨hx, hb, hml, hown, hts⟩ (hM h H.size) cw ⟨blind _ D cy G M H.size, wd_recv cx w hL hk hci hc, wd_pre cx w _⟩ rfl hn hls hst (lv_room hW) hdg ⟨by rw [hR.1]; exact hv.1, by rw [hR.2]; exact hv.2⟩) w.2.2 (fun q _ h => fr q h) fr (fun x r1 t H1 locs1 ht hvm hq hB hz1 hk1 hS => ?_)
  obtain ⟨rfl, ⟨hrL, hrK⟩, hB⟩ := hB
  obtain ⟨hP1, hD1, hG1, hE1⟩ := hB
  rw [ht] at hP1
  exact kk (uP u v) x.1 x.2.1 _ H1 locs1 hq hv hE1 hrL hrK (cX_G cx hG1) ⟨hP1, ⟨hD1.1, fun k q h => fr _ (hD1.2 k q h)⟩, hS⟩
theorem rb_TV {y : MethodName} {bytes : ByteArray} {maxL n index : Nat} {yret : Option FieldType} {i : Nat} {ws : List Cond} {rf rl : Nat} {As : List Value} (cx : cX p s m args meth c cc own nL ret Ts D cy G A) (w : wd D cy G M A s.heap H locs) (hR : R.cells = b.1 ∧ R.slots = b.2) (hls : ls.size = nL) {f : uS → (gS → mS → Unit → Prop) → Prop} {k : uS → gS → mS → Unit → Prop} (h : q_ca b u f k) (hM : ∀ {v : uS} {post : gS → mS → Unit → Prop}, f v post → cbV l y ws { frames := rf, cells := v.1, slots := v.2, locals := rl } D cy G M (.ref (stK D i) :: As) v post) (hi : i < 36) (cw : ∀ v : uS, CallW R s args own "java/lang/String" index y bytes maxL yret ws { frames := rf, cells := v.1, slots := v.2, locals := rl } v.1 v.2 n) (hn : As.length = n) (hst : st0 = As.reverse ++ .ref (stK D i) :: rest) (hW : (rest.map fun v => v.category).sum ≤ 8) (hdg : decode cc pc = .ok (.invokevirtual index, 3))
    (kk : ∀ (u1 : uS) (G1 : gS) (M1 : mS) (r : Unit) (H1 : Heap) (locs1 : List Loc), k u1 G1 M1 r → uL u1 b → ext G G1 → cX p s m args meth c cc own nL ret Ts D cy G1 A → wd D cy G1 M1 A s.heap H1 locs1 → W p l e R s m args below meth c H1 locs1 u1.1 u1.2 Q (F0 m (pc + 3) ls rest)) : W p l e R s m args below meth c H locs u.1 u.2 Q (F0 m pc ls st0) := by
  obtain ⟨v, hv, h⟩ := h
  have cw := cw v
  have fr := wd_free cx w
  obtain ⟨hx, hb, hml, hown, hts, hr, hlocks, hK, hA, hG, hsx⟩ := id cx
  refine va_callv (va_runV (As := As) (rest := rest) ⟨hx, hb, hml, hown, hts⟩ (hM h H.size) cw ⟨blind _ D cy G M H.size, vk_recv hsx.2.2.2.2.2.2.1 hi w.2.2, wd_pre cx w _⟩ rfl hn hls hst (lv_room hW) hdg ⟨by rw [hR.1]; exact hv.1, by rw [hR.2]; exact hv.2⟩) w.2.2 (fun q _ h => fr q h) fr (fun x t H1 locs1 ht hvm hq hB hz1 hk1 hS => ?_)
  obtain ⟨hP1, hD1, hG1, hE1⟩ := hB
  rw [ht] at hP1
  exact kk (uP u v) x.1 x.2 () H1 locs1 hq hv hE1 (cX_G cx hG1) ⟨hP1, ⟨hD1.1, fun k q h => fr _ (hD1.2 k q h)⟩, hS⟩
theorem rb_TI {y : MethodName} {bytes : ByteArray} {maxL n index : Nat} {yret : Option FieldType} {i : Nat} {ws : List Cond} {rf rl : Nat} {As : List Value} (cx : cX p s m args meth c cc own nL ret Ts D cy G A) (w : wd D cy G M A s.heap H locs) (hR : R.cells = b.1 ∧ R.slots = b.2) (hls : ls.size = nL) {f : uS → (gS → mS → Int32 → Prop) → Prop} {k : uS → gS → mS → Int32 → Prop} (h : q_ca b u f k) (hM : ∀ {v : uS} {post : gS → mS → Int32 → Prop}, f v post → cbI l y ws { frames := rf, cells := v.1, slots := v.2, locals := rl } D cy G M (.ref (stK D i) :: As) v post) (hi : i < 36) (cw : ∀ v : uS, CallW R s args own "java/lang/String" index y bytes maxL yret ws { frames := rf, cells := v.1, slots := v.2, locals := rl } v.1 v.2 n) (hn : As.length = n) (hst : st0 = As.reverse ++ .ref (stK D i) :: rest) (hW : (rest.map fun v => v.category).sum ≤ 8) (hdg : decode cc pc = .ok (.invokevirtual index, 3))
    (kk : ∀ (u1 : uS) (G1 : gS) (M1 : mS) (r : Int32) (H1 : Heap) (locs1 : List Loc), k u1 G1 M1 r → uL u1 b → ext G G1 → cX p s m args meth c cc own nL ret Ts D cy G1 A → wd D cy G1 M1 A s.heap H1 locs1 → W p l e R s m args below meth c H1 locs1 u1.1 u1.2 Q (F0 m (pc + 3) ls (.int r :: rest))) : W p l e R s m args below meth c H locs u.1 u.2 Q (F0 m pc ls st0) := by
  obtain ⟨v, hv, h⟩ := h
  have cw := cw v
  have fr := wd_free cx w
  obtain ⟨hx, hb, hml, hown, hts, hr, hlocks, hK, hA, hG, hsx⟩ := id cx
  refine va_calli (va_runV (As := As) (rest := rest) ⟨hx, hb, hml, hown, hts⟩ (hM h H.size) cw ⟨blind _ D cy G M H.size, vk_recv hsx.2.2.2.2.2.2.1 hi w.2.2, wd_pre cx w _⟩ rfl hn hls hst (lv_room hW) hdg ⟨by rw [hR.1]; exact hv.1, by rw [hR.2]; exact hv.2⟩) w.2.2 (fun q _ h => fr q h) fr (fun r1 x t H1 locs1 ht hvm hq hB hz1 hk1 hS => ?_)
  obtain ⟨hP1, hD1, hG1, hE1⟩ := hB
  rw [ht] at hP1
  exact kk (uP u v) x.1 x.2 r1 H1 locs1 hq hv hE1 (cX_G cx hG1) ⟨hP1, ⟨hD1.1, fun k q h => fr _ (hD1.2 k q h)⟩, hS⟩
theorem rb_TR {kr : Nat} {y : MethodName} {bytes : ByteArray} {maxL n index : Nat} {yret : Option FieldType} {i : Nat} {ws : List Cond} {rf rl : Nat} {As : List Value} (cx : cX p s m args meth c cc own nL ret Ts D cy G A) (w : wd D cy G M A s.heap H locs) (hR : R.cells = b.1 ∧ R.slots = b.2) (hls : ls.size = nL) {f : uS → (gS → mS → Nat → Prop) → Prop} {k : uS → gS → mS → Nat → Prop} (h : q_ca b u f k) (hM : ∀ {v : uS} {post : gS → mS → Nat → Prop}, f v post → cbR kr l y ws { frames := rf, cells := v.1, slots := v.2, locals := rl } D cy G M (.ref (stK D i) :: As) v post) (hi : i < 36) (cw : ∀ v : uS, CallW R s args own "java/lang/String" index y bytes maxL yret ws { frames := rf, cells := v.1, slots := v.2, locals := rl } v.1 v.2 n) (hn : As.length = n) (hst : st0 = As.reverse ++ .ref (stK D i) :: rest) (hW : (rest.map fun v => v.category).sum ≤ 8) (hdg : decode cc pc = .ok (.invokevirtual index, 3))
    (kk : ∀ (u1 : uS) (G1 : gS) (M1 : mS) (r : Nat) (H1 : Heap) (locs1 : List Loc), k u1 G1 M1 r → uL u1 b → ext G G1 → r ∈ gL G1 → gK G1 r = kr → cX p s m args meth c cc own nL ret Ts D cy G1 A → wd D cy G1 M1 A s.heap H1 locs1 → W p l e R s m args below meth c H1 locs1 u1.1 u1.2 Q (F0 m (pc + 3) ls (.ref r :: rest))) : W p l e R s m args below meth c H locs u.1 u.2 Q (F0 m pc ls st0) := by
  obtain ⟨v, hv, h⟩ := h
  have cw := cw v
  have fr := wd_free cx w
  obtain ⟨hx, hb, hml, hown, hts, hr, hlocks, hK, hA, hG, hsx⟩ := id cx
  refine va_callr (va_runV (As := As) (rest := rest) ⟨hx, hb, hml, hown, hts⟩ (hM h H.size) cw ⟨blind _ D cy G M H.size, vk_recv hsx.2.2.2.2.2.2.1 hi w.2.2, wd_pre cx w _⟩ rfl hn hls hst (lv_room hW) hdg ⟨by rw [hR.1]; exact hv.1, by rw [hR.2]; exact hv.2⟩) w.2.2 (fun q _ h => fr q h) fr (fun x r1 t H1 locs1 ht hvm hq hB hz1 hk1 hS => ?_)
  obtain ⟨rfl, ⟨hrL, hrK⟩, hB⟩ := hB
  obtain ⟨hP1, hD1, hG1, hE1⟩ := hB
  rw [ht] at hP1
  exact kk (uP u v) x.1 x.2.1 _ H1 locs1 hq hv hE1 hrL hrK (cX_G cx hG1) ⟨hP1, ⟨hD1.1, fun k q h => fr _ (hD1.2 k q h)⟩, hS⟩
theorem rb_SV {y : MethodName} {bytes : ByteArray} {maxL n index : Nat} {yret : Option FieldType} {ws : List Cond} {rf rl : Nat} {As : List Value} (cx : cX p s m args meth c cc own nL ret Ts D cy G A) (w : wd D cy G M A s.heap H locs) (hR : R.cells = b.1 ∧ R.slots = b.2) (hls : ls.size = nL) {f : uS → (gS → mS → Unit → Prop) → Prop} {k : uS → gS → mS → Unit → Prop} (h : q_ca b u f k) (hM : ∀ {v : uS} {post : gS → mS → Unit → Prop}, f v post → cbV l y ws { frames := rf, cells := v.1, slots := v.2, locals := rl } D cy G M As v post) (cw : ∀ v : uS, CallB R s args own index y bytes maxL yret ws { frames := rf, cells := v.1, slots := v.2, locals := rl } v.1 v.2 n ∧ (Cond.static y).before args s = true) (hn : As.length = n) (hst : st0 = As.reverse ++ rest) (hW : (rest.map fun v => v.category).sum ≤ 8) (hdg : decode cc pc = .ok (.invokestatic index, 3))
    (kk : ∀ (u1 : uS) (G1 : gS) (M1 : mS) (r : Unit) (H1 : Heap) (locs1 : List Loc), k u1 G1 M1 r → uL u1 b → ext G G1 → cX p s m args meth c cc own nL ret Ts D cy G1 A → wd D cy G1 M1 A s.heap H1 locs1 → W p l e R s m args below meth c H1 locs1 u1.1 u1.2 Q (F0 m (pc + 3) ls rest)) : W p l e R s m args below meth c H locs u.1 u.2 Q (F0 m pc ls st0) := by
  obtain ⟨v, hv, h⟩ := h
  have cw := cw v
  have fr := wd_free cx w
  obtain ⟨hx, hb, hml, hown, hts, hr, hlocks, hK, hA, hG, hsx⟩ := id cx
  refine va_callv (va_runS (As := As) (rest := rest) ⟨hx, hb, hml, hown, hts⟩ (hM h H.size) cw ⟨blind _ D cy G M H.size, wd_pre cx w _⟩ rfl hn hls hst (lv_room hW) hdg ⟨by rw [hR.1]; exact hv.1, by rw [hR.2]; exact hv.2⟩) w.2.2 (fun q _ h => fr q h) fr (fun x t H1 locs1 ht hvm hq hB hz1 hk1 hS => ?_)
  obtain ⟨hP1, hD1, hG1, hE1⟩ := hB
  rw [ht] at hP1
  exact kk (uP u v) x.1 x.2 () H1 locs1 hq hv hE1 (cX_G cx hG1) ⟨hP1, ⟨hD1.1, fun k q h => fr _ (hD1.2 k q h)⟩, hS⟩
theorem rb_SI {y : MethodName} {bytes : ByteArray} {maxL n index : Nat} {yret : Option FieldType} {ws : List Cond} {rf rl : Nat} {As : List Value} (cx : cX p s m args meth c cc own nL ret Ts D cy G A) (w : wd D cy G M A s.heap H locs) (hR : R.cells = b.1 ∧ R.slots = b.2) (hls : ls.size = nL) {f : uS → (gS → mS → Int32 → Prop) → Prop} {k : uS → gS → mS → Int32 → Prop} (h : q_ca b u f k) (hM : ∀ {v : uS} {post : gS → mS → Int32 → Prop}, f v post → cbI l y ws { frames := rf, cells := v.1, slots := v.2, locals := rl } D cy G M As v post) (cw : ∀ v : uS, CallB R s args own index y bytes maxL yret ws { frames := rf, cells := v.1, slots := v.2, locals := rl } v.1 v.2 n ∧ (Cond.static y).before args s = true) (hn : As.length = n) (hst : st0 = As.reverse ++ rest) (hW : (rest.map fun v => v.category).sum ≤ 8) (hdg : decode cc pc = .ok (.invokestatic index, 3))
    (kk : ∀ (u1 : uS) (G1 : gS) (M1 : mS) (r : Int32) (H1 : Heap) (locs1 : List Loc), k u1 G1 M1 r → uL u1 b → ext G G1 → cX p s m args meth c cc own nL ret Ts D cy G1 A → wd D cy G1 M1 A s.heap H1 locs1 → W p l e R s m args below meth c H1 locs1 u1.1 u1.2 Q (F0 m (pc + 3) ls (.int r :: rest))) : W p l e R s m args below meth c H locs u.1 u.2 Q (F0 m pc ls st0) := by
  obtain ⟨v, hv, h⟩ := h
  have cw := cw v
  have fr := wd_free cx w
  obtain ⟨hx, hb, hml, hown, hts, hr, hlocks, hK, hA, hG, hsx⟩ := id cx
  refine va_calli (va_runS (As := As) (rest := rest) ⟨hx, hb, hml, hown, hts⟩ (hM h H.size) cw ⟨blind _ D cy G M H.size, wd_pre cx w _⟩ rfl hn hls hst (lv_room hW) hdg ⟨by rw [hR.1]; exact hv.1, by rw [hR.2]; exact hv.2⟩) w.2.2 (fun q _ h => fr q h) fr (fun r1 x t H1 locs1 ht hvm hq hB hz1 hk1 hS => ?_)
  obtain ⟨hP1, hD1, hG1, hE1⟩ := hB
  rw [ht] at hP1
  exact kk (uP u v) x.1 x.2 r1 H1 locs1 hq hv hE1 (cX_G cx hG1) ⟨hP1, ⟨hD1.1, fun k q h => fr _ (hD1.2 k q h)⟩, hS⟩
theorem rb_SR {kr : Nat} {y : MethodName} {bytes : ByteArray} {maxL n index : Nat} {yret : Option FieldType} {ws : List Cond} {rf rl : Nat} {As : List Value} (cx : cX p s m args meth c cc own nL ret Ts D cy G A) (w : wd D cy G M A s.heap H locs) (hR : R.cells = b.1 ∧ R.slots = b.2) (hls : ls.size = nL) {f : uS → (gS → mS → Nat → Prop) → Prop} {k : uS → gS → mS → Nat → Prop} (h : q_ca b u f k) (hM : ∀ {v : uS} {post : gS → mS → Nat → Prop}, f v post → cbR kr l y ws { frames := rf, cells := v.1, slots := v.2, locals := rl } D cy G M As v post) (cw : ∀ v : uS, CallB R s args own index y bytes maxL yret ws { frames := rf, cells := v.1, slots := v.2, locals := rl } v.1 v.2 n ∧ (Cond.static y).before args s = true) (hn : As.length = n) (hst : st0 = As.reverse ++ rest) (hW : (rest.map fun v => v.category).sum ≤ 8) (hdg : decode cc pc = .ok (.invokestatic index, 3))
    (kk : ∀ (u1 : uS) (G1 : gS) (M1 : mS) (r : Nat) (H1 : Heap) (locs1 : List Loc), k u1 G1 M1 r → uL u1 b → ext G G1 → r ∈ gL G1 → gK G1 r = kr → cX p s m args meth c cc own nL ret Ts D cy G1 A → wd D cy G1 M1 A s.heap H1 locs1 → W p l e R s m args below meth c H1 locs1 u1.1 u1.2 Q (F0 m (pc + 3) ls (.ref r :: rest))) : W p l e R s m args below meth c H locs u.1 u.2 Q (F0 m pc ls st0) := by
  obtain ⟨v, hv, h⟩ := h
  have cw := cw v
  have fr := wd_free cx w
  obtain ⟨hx, hb, hml, hown, hts, hr, hlocks, hK, hA, hG, hsx⟩ := id cx
  refine va_callr (va_runS (As := As) (rest := rest) ⟨hx, hb, hml, hown, hts⟩ (hM h H.size) cw ⟨blind _ D cy G M H.size, wd_pre cx w _⟩ rfl hn hls hst (lv_room hW) hdg ⟨by rw [hR.1]; exact hv.1, by rw [hR.2]; exact hv.2⟩) w.2.2 (fun q _ h => fr q h) fr (fun x r1 t H1 locs1 ht hvm hq hB hz1 hk1 hS => ?_)
  obtain ⟨rfl, ⟨hrL, hrK⟩, hB⟩ := hB
  obtain ⟨hP1, hD1, hG1, hE1⟩ := hB
  rw [ht] at hP1
  exact kk (uP u v) x.1 x.2.1 _ H1 locs1 hq hv hE1 hrL hrK (cX_G cx hG1) ⟨hP1, ⟨hD1.1, fun k q h => fr _ (hD1.2 k q h)⟩, hS⟩
theorem rb_UV {y : MethodName} {bytes : ByteArray} {maxL n index : Nat} {yret : Option FieldType} {ws : List Cond} {rf rl : Nat} {As : List Value} (cx : cX p s m args meth c cc own nL ret Ts D cy G A) (w : wd D cy G M A s.heap H locs) (hR : R.cells = b.1 ∧ R.slots = b.2) (hls : ls.size = nL) {f : uS → (gS → mS → Unit → Prop) → Prop} {k : uS → gS → mS → Unit → Prop} (h : q_ca b u f k) (hM : ∀ {v : uS} {post : gS → mS → Unit → Prop}, f v post → cbV l y ws { frames := rf, cells := v.1, slots := v.2, locals := rl } D cy G M (.ref a :: As) v post) {C owner : String} {x : MethodName} (cw : ∀ v : uS, va_CU R s args own C owner index x y bytes maxL yret ws { frames := rf, cells := v.1, slots := v.2, locals := rl } v.1 v.2 n) {ci : Nat} {T : u_T} {N : Nat} (hL : a ∈ gL G) (hk : gK G a = ci) (hci : ci < 12) (hc : vwCl[ci]? = some (C, T, N)) (hn : As.length = n) (hst : st0 = As.reverse ++ .ref a :: rest) (hW : (rest.map fun v => v.category).sum ≤ 8) (hdg : decode cc pc = .ok (.invokevirtual index, 3))
    (kk : ∀ (u1 : uS) (G1 : gS) (M1 : mS) (r : Unit) (H1 : Heap) (locs1 : List Loc), k u1 G1 M1 r → uL u1 b → ext G G1 → cX p s m args meth c cc own nL ret Ts D cy G1 A → wd D cy G1 M1 A s.heap H1 locs1 → W p l e R s m args below meth c H1 locs1 u1.1 u1.2 Q (F0 m (pc + 3) ls rest)) : W p l e R s m args below meth c H locs u.1 u.2 Q (F0 m pc ls st0) := by
  obtain ⟨v, hv, h⟩ := h
  have cw := cw v
  have fr := wd_free cx w
  obtain ⟨hx, hb, hml, hown, hts, hr, hlocks, hK, hA, hG, hsx⟩ := id cx
  refine va_callv (va_runU (As := As) (rest := rest) ⟨hx, hb, hml, hown, hts⟩ (hM h H.size) cw ⟨blind _ D cy G M H.size, wd_recv cx w hL hk hci hc, wd_pre cx w _⟩ rfl hn hls hst (lv_room hW) hdg ⟨by rw [hR.1]; exact hv.1, by rw [hR.2]; exact hv.2⟩) w.2.2 (fun q _ h => fr q h) fr (fun x t H1 locs1 ht hvm hq hB hz1 hk1 hS => ?_)
  obtain ⟨hP1, hD1, hG1, hE1⟩ := hB
  rw [ht] at hP1
  exact kk (uP u v) x.1 x.2 () H1 locs1 hq hv hE1 (cX_G cx hG1) ⟨hP1, ⟨hD1.1, fun k q h => fr _ (hD1.2 k q h)⟩, hS⟩
theorem rb_UI {y : MethodName} {bytes : ByteArray} {maxL n index : Nat} {yret : Option FieldType} {ws : List Cond} {rf rl : Nat} {As : List Value} (cx : cX p s m args meth c cc own nL ret Ts D cy G A) (w : wd D cy G M A s.heap H locs) (hR : R.cells = b.1 ∧ R.slots = b.2) (hls : ls.size = nL) {f : uS → (gS → mS → Int32 → Prop) → Prop} {k : uS → gS → mS → Int32 → Prop} (h : q_ca b u f k) (hM : ∀ {v : uS} {post : gS → mS → Int32 → Prop}, f v post → cbI l y ws { frames := rf, cells := v.1, slots := v.2, locals := rl } D cy G M (.ref a :: As) v post) {C owner : String} {x : MethodName} (cw : ∀ v : uS, va_CU R s args own C owner index x y bytes maxL yret ws { frames := rf, cells := v.1, slots := v.2, locals := rl } v.1 v.2 n) {ci : Nat} {T : u_T} {N : Nat} (hL : a ∈ gL G) (hk : gK G a = ci) (hci : ci < 12) (hc : vwCl[ci]? = some (C, T, N)) (hn : As.length = n) (hst : st0 = As.reverse ++ .ref a :: rest) (hW : (rest.map fun v => v.category).sum ≤ 8) (hdg : decode cc pc = .ok (.invokevirtual index, 3))
    (kk : ∀ (u1 : uS) (G1 : gS) (M1 : mS) (r : Int32) (H1 : Heap) (locs1 : List Loc), k u1 G1 M1 r → uL u1 b → ext G G1 → cX p s m args meth c cc own nL ret Ts D cy G1 A → wd D cy G1 M1 A s.heap H1 locs1 → W p l e R s m args below meth c H1 locs1 u1.1 u1.2 Q (F0 m (pc + 3) ls (.int r :: rest))) : W p l e R s m args below meth c H locs u.1 u.2 Q (F0 m pc ls st0) := by
  obtain ⟨v, hv, h⟩ := h
  have cw := cw v
  have fr := wd_free cx w
  obtain ⟨hx, hb, hml, hown, hts, hr, hlocks, hK, hA, hG, hsx⟩ := id cx
  refine va_calli (va_runU (As := As) (rest := rest) ⟨hx, hb, hml, hown, hts⟩ (hM h H.size) cw ⟨blind _ D cy G M H.size, wd_recv cx w hL hk hci hc, wd_pre cx w _⟩ rfl hn hls hst (lv_room hW) hdg ⟨by rw [hR.1]; exact hv.1, by rw [hR.2]; exact hv.2⟩) w.2.2 (fun q _ h => fr q h) fr (fun r1 x t H1 locs1 ht hvm hq hB hz1 hk1 hS => ?_)
  obtain ⟨hP1, hD1, hG1, hE1⟩ := hB
  rw [ht] at hP1
  exact kk (uP u v) x.1 x.2 r1 H1 locs1 hq hv hE1 (cX_G cx hG1) ⟨hP1, ⟨hD1.1, fun k q h => fr _ (hD1.2 k q h)⟩, hS⟩
theorem rb_UR {kr : Nat} {y : MethodName} {bytes : ByteArray} {maxL n index : Nat} {yret : Option FieldType} {ws : List Cond} {rf rl : Nat} {As : List Value} (cx : cX p s m args meth c cc own nL ret Ts D cy G A) (w : wd D cy G M A s.heap H locs) (hR : R.cells = b.1 ∧ R.slots = b.2) (hls : ls.size = nL) {f : uS → (gS → mS → Nat → Prop) → Prop} {k : uS → gS → mS → Nat → Prop} (h : q_ca b u f k) (hM : ∀ {v : uS} {post : gS → mS → Nat → Prop}, f v post → cbR kr l y ws { frames := rf, cells := v.1, slots := v.2, locals := rl } D cy G M (.ref a :: As) v post) {C owner : String} {x : MethodName} (cw : ∀ v : uS, va_CU R s args own C owner index x y bytes maxL yret ws { frames := rf, cells := v.1, slots := v.2, locals := rl } v.1 v.2 n) {ci : Nat} {T : u_T} {N : Nat} (hL : a ∈ gL G) (hk : gK G a = ci) (hci : ci < 12) (hc : vwCl[ci]? = some (C, T, N)) (hn : As.length = n) (hst : st0 = As.reverse ++ .ref a :: rest) (hW : (rest.map fun v => v.category).sum ≤ 8) (hdg : decode cc pc = .ok (.invokevirtual index, 3))
    (kk : ∀ (u1 : uS) (G1 : gS) (M1 : mS) (r : Nat) (H1 : Heap) (locs1 : List Loc), k u1 G1 M1 r → uL u1 b → ext G G1 → r ∈ gL G1 → gK G1 r = kr → cX p s m args meth c cc own nL ret Ts D cy G1 A → wd D cy G1 M1 A s.heap H1 locs1 → W p l e R s m args below meth c H1 locs1 u1.1 u1.2 Q (F0 m (pc + 3) ls (.ref r :: rest))) : W p l e R s m args below meth c H locs u.1 u.2 Q (F0 m pc ls st0) := by
  obtain ⟨v, hv, h⟩ := h
  have cw := cw v
  have fr := wd_free cx w
  obtain ⟨hx, hb, hml, hown, hts, hr, hlocks, hK, hA, hG, hsx⟩ := id cx
  refine va_callr (va_runU (As := As) (rest := rest) ⟨hx, hb, hml, hown, hts⟩ (hM h H.size) cw ⟨blind _ D cy G M H.size, wd_recv cx w hL hk hci hc, wd_pre cx w _⟩ rfl hn hls hst (lv_room hW) hdg ⟨by rw [hR.1]; exact hv.1, by rw [hR.2]; exact hv.2⟩) w.2.2 (fun q _ h => fr q h) fr (fun x r1 t H1 locs1 ht hvm hq hB hz1 hk1 hS => ?_)
  obtain ⟨rfl, ⟨hrL, hrK⟩, hB⟩ := hB
  obtain ⟨hP1, hD1, hG1, hE1⟩ := hB
  rw [ht] at hP1
  exact kk (uP u v) x.1 x.2.1 _ H1 locs1 hq hv hE1 hrL hrK (cX_G cx hG1) ⟨hP1, ⟨hD1.1, fun k q h => fr _ (hD1.2 k q h)⟩, hS⟩
theorem rb_YV {y : MethodName} {bytes : ByteArray} {maxL n index : Nat} {yret : Option FieldType} {ws : List Cond} {rf rl : Nat} {As : List Value} (cx : cX p s m args meth c cc own nL ret Ts D cy G A) (w : wd D cy G M A s.heap H locs) (hR : R.cells = b.1 ∧ R.slots = b.2) (hls : ls.size = nL) {f : uS → (gS → mS → Unit → Prop) → Prop} {k : uS → gS → mS → Unit → Prop} (h : q_ca b u f k) (hM : ∀ {v : uS} {post : gS → mS → Unit → Prop}, f v post → cbV l y ws { frames := rf, cells := v.1, slots := v.2, locals := rl } D cy G M (.ref a :: As) v post) {C : String} (cw : ∀ v : uS, va_CS R s args own index y bytes maxL yret ws { frames := rf, cells := v.1, slots := v.2, locals := rl } v.1 v.2 n) {ci : Nat} {T : u_T} {N : Nat} (hL : a ∈ gL G) (hk : gK G a = ci) (hci : ci < 12) (hc : vwCl[ci]? = some (C, T, N)) (hn : As.length = n) (hst : st0 = As.reverse ++ .ref a :: rest) (hW : (rest.map fun v => v.category).sum ≤ 8) (hdg : decode cc pc = .ok (.invokespecial index, 3))
    (kk : ∀ (u1 : uS) (G1 : gS) (M1 : mS) (r : Unit) (H1 : Heap) (locs1 : List Loc), k u1 G1 M1 r → uL u1 b → ext G G1 → cX p s m args meth c cc own nL ret Ts D cy G1 A → wd D cy G1 M1 A s.heap H1 locs1 → W p l e R s m args below meth c H1 locs1 u1.1 u1.2 Q (F0 m (pc + 3) ls rest)) : W p l e R s m args below meth c H locs u.1 u.2 Q (F0 m pc ls st0) := by
  obtain ⟨v, hv, h⟩ := h
  have cw := cw v
  have fr := wd_free cx w
  obtain ⟨hx, hb, hml, hown, hts, hr, hlocks, hK, hA, hG, hsx⟩ := id cx
  refine va_callv (va_runSU (hK.1 ci _ hc).2 (As := As) (rest := rest) ⟨hx, hb, hml, hown, hts⟩ (hM h H.size) cw ⟨blind _ D cy G M H.size, wd_recv cx w hL hk hci hc, wd_pre cx w _⟩ rfl hn hls hst (lv_room hW) hdg ⟨by rw [hR.1]; exact hv.1, by rw [hR.2]; exact hv.2⟩) w.2.2 (fun q _ h => fr q h) fr (fun x t H1 locs1 ht hvm hq hB hz1 hk1 hS => ?_)
  obtain ⟨hP1, hD1, hG1, hE1⟩ := hB
  rw [ht] at hP1
  exact kk (uP u v) x.1 x.2 () H1 locs1 hq hv hE1 (cX_G cx hG1) ⟨hP1, ⟨hD1.1, fun k q h => fr _ (hD1.2 k q h)⟩, hS⟩
theorem rb_YI {y : MethodName} {bytes : ByteArray} {maxL n index : Nat} {yret : Option FieldType} {ws : List Cond} {rf rl : Nat} {As : List Value} (cx : cX p s m args meth c cc own nL ret Ts D cy G A) (w : wd D cy G M A s.heap H locs) (hR : R.cells = b.1 ∧ R.slots = b.2) (hls : ls.size = nL) {f : uS → (gS → mS → Int32 → Prop) → Prop} {k : uS → gS → mS → Int32 → Prop} (h : q_ca b u f k) (hM : ∀ {v : uS} {post : gS → mS → Int32 → Prop}, f v post → cbI l y ws { frames := rf, cells := v.1, slots := v.2, locals := rl } D cy G M (.ref a :: As) v post) {C : String} (cw : ∀ v : uS, va_CS R s args own index y bytes maxL yret ws { frames := rf, cells := v.1, slots := v.2, locals := rl } v.1 v.2 n) {ci : Nat} {T : u_T} {N : Nat} (hL : a ∈ gL G) (hk : gK G a = ci) (hci : ci < 12) (hc : vwCl[ci]? = some (C, T, N)) (hn : As.length = n) (hst : st0 = As.reverse ++ .ref a :: rest) (hW : (rest.map fun v => v.category).sum ≤ 8) (hdg : decode cc pc = .ok (.invokespecial index, 3))
    (kk : ∀ (u1 : uS) (G1 : gS) (M1 : mS) (r : Int32) (H1 : Heap) (locs1 : List Loc), k u1 G1 M1 r → uL u1 b → ext G G1 → cX p s m args meth c cc own nL ret Ts D cy G1 A → wd D cy G1 M1 A s.heap H1 locs1 → W p l e R s m args below meth c H1 locs1 u1.1 u1.2 Q (F0 m (pc + 3) ls (.int r :: rest))) : W p l e R s m args below meth c H locs u.1 u.2 Q (F0 m pc ls st0) := by
  obtain ⟨v, hv, h⟩ := h
  have cw := cw v
  have fr := wd_free cx w
  obtain ⟨hx, hb, hml, hown, hts, hr, hlocks, hK, hA, hG, hsx⟩ := id cx
  refine va_calli (va_runSU (hK.1 ci _ hc).2 (As := As) (rest := rest) ⟨hx, hb, hml, hown, hts⟩ (hM h H.size) cw ⟨blind _ D cy G M H.size, wd_recv cx w hL hk hci hc, wd_pre cx w _⟩ rfl hn hls hst (lv_room hW) hdg ⟨by rw [hR.1]; exact hv.1, by rw [hR.2]; exact hv.2⟩) w.2.2 (fun q _ h => fr q h) fr (fun r1 x t H1 locs1 ht hvm hq hB hz1 hk1 hS => ?_)
  obtain ⟨hP1, hD1, hG1, hE1⟩ := hB
  rw [ht] at hP1
  exact kk (uP u v) x.1 x.2 r1 H1 locs1 hq hv hE1 (cX_G cx hG1) ⟨hP1, ⟨hD1.1, fun k q h => fr _ (hD1.2 k q h)⟩, hS⟩
theorem rb_YR {kr : Nat} {y : MethodName} {bytes : ByteArray} {maxL n index : Nat} {yret : Option FieldType} {ws : List Cond} {rf rl : Nat} {As : List Value} (cx : cX p s m args meth c cc own nL ret Ts D cy G A) (w : wd D cy G M A s.heap H locs) (hR : R.cells = b.1 ∧ R.slots = b.2) (hls : ls.size = nL) {f : uS → (gS → mS → Nat → Prop) → Prop} {k : uS → gS → mS → Nat → Prop} (h : q_ca b u f k) (hM : ∀ {v : uS} {post : gS → mS → Nat → Prop}, f v post → cbR kr l y ws { frames := rf, cells := v.1, slots := v.2, locals := rl } D cy G M (.ref a :: As) v post) {C : String} (cw : ∀ v : uS, va_CS R s args own index y bytes maxL yret ws { frames := rf, cells := v.1, slots := v.2, locals := rl } v.1 v.2 n) {ci : Nat} {T : u_T} {N : Nat} (hL : a ∈ gL G) (hk : gK G a = ci) (hci : ci < 12) (hc : vwCl[ci]? = some (C, T, N)) (hn : As.length = n) (hst : st0 = As.reverse ++ .ref a :: rest) (hW : (rest.map fun v => v.category).sum ≤ 8) (hdg : decode cc pc = .ok (.invokespecial index, 3))
    (kk : ∀ (u1 : uS) (G1 : gS) (M1 : mS) (r : Nat) (H1 : Heap) (locs1 : List Loc), k u1 G1 M1 r → uL u1 b → ext G G1 → r ∈ gL G1 → gK G1 r = kr → cX p s m args meth c cc own nL ret Ts D cy G1 A → wd D cy G1 M1 A s.heap H1 locs1 → W p l e R s m args below meth c H1 locs1 u1.1 u1.2 Q (F0 m (pc + 3) ls (.ref r :: rest))) : W p l e R s m args below meth c H locs u.1 u.2 Q (F0 m pc ls st0) := by
  obtain ⟨v, hv, h⟩ := h
  have cw := cw v
  have fr := wd_free cx w
  obtain ⟨hx, hb, hml, hown, hts, hr, hlocks, hK, hA, hG, hsx⟩ := id cx
  refine va_callr (va_runSU (hK.1 ci _ hc).2 (As := As) (rest := rest) ⟨hx, hb, hml, hown, hts⟩ (hM h H.size) cw ⟨blind _ D cy G M H.size, wd_recv cx w hL hk hci hc, wd_pre cx w _⟩ rfl hn hls hst (lv_room hW) hdg ⟨by rw [hR.1]; exact hv.1, by rw [hR.2]; exact hv.2⟩) w.2.2 (fun q _ h => fr q h) fr (fun x r1 t H1 locs1 ht hvm hq hB hz1 hk1 hS => ?_)
  obtain ⟨rfl, ⟨hrL, hrK⟩, hB⟩ := hB
  obtain ⟨hP1, hD1, hG1, hE1⟩ := hB
  rw [ht] at hP1
  exact kk (uP u v) x.1 x.2.1 _ H1 locs1 hq hv hE1 hrL hrK (cX_G cx hG1) ⟨hP1, ⟨hD1.1, fun k q h => fr _ (hD1.2 k q h)⟩, hS⟩
theorem rb_NV {y : MethodName} {bytes : ByteArray} {maxL n index : Nat} {ws : List Cond} {rf rl : Nat} {As : List Value} (cx : cX p s m args meth c cc own nL ret Ts D cy G A) (w : wd D cy G M A s.heap H locs) (hR : R.cells = b.1 ∧ R.slots = b.2) (hls : ls.size = nL) {f : uS → (gS → mS → Unit → Prop) → Prop} {k : uS → gS → mS → Unit → Prop} (h : q_ca b u f k) (hM : ∀ {v : uS} {post : gS → mS → Unit → Prop}, f v post → cbV l y ws { frames := rf, cells := v.1, slots := v.2, locals := rl } D cy G M (.ref a :: As) v post) (cw : ∀ v : uS, CallB R s args own index y bytes maxL none ws { frames := rf, cells := v.1, slots := v.2, locals := rl } v.1 v.2 n ∧ y.name = "<init>" ∧ (Cond.instanceMethod y).before args s = true) (hn : As.length = n) (hst : st0 = As.reverse ++ .ref a :: rest) (hW : (rest.map fun v => v.category).sum ≤ 8) (hdg : decode cc pc = .ok (.invokespecial index, 3))
    (kk : ∀ (u1 : uS) (G1 : gS) (M1 : mS) (r : Unit) (H1 : Heap) (locs1 : List Loc), k u1 G1 M1 r → uL u1 b → ext G G1 → cX p s m args meth c cc own nL ret Ts D cy G1 A → wd D cy G1 M1 A s.heap H1 locs1 → W p l e R s m args below meth c H1 locs1 u1.1 u1.2 Q (F0 m (pc + 3) ls rest)) : W p l e R s m args below meth c H locs u.1 u.2 Q (F0 m pc ls st0) := by
  obtain ⟨v, hv, h⟩ := h
  have cw := cw v
  have fr := wd_free cx w
  obtain ⟨hx, hb, hml, hown, hts, hr, hlocks, hK, hA, hG, hsx⟩ := id cx
  refine va_callv (va_runI (As := As) (rest := rest) ⟨hx, hb, hml, hown, hts⟩ (hM h H.size) cw ⟨blind _ D cy G M H.size, wd_pre cx w _⟩ rfl hn hls hst (lv_room hW) hdg ⟨by rw [hR.1]; exact hv.1, by rw [hR.2]; exact hv.2⟩) w.2.2 (fun q _ h => fr q h) fr (fun x t H1 locs1 ht hvm hq hB hz1 hk1 hS => ?_)
  obtain ⟨hP1, hD1, hG1, hE1⟩ := hB
  rw [ht] at hP1
  exact kk (uP u v) x.1 x.2 () H1 locs1 hq hv hE1 (cX_G cx hG1) ⟨hP1, ⟨hD1.1, fun k q h => fr _ (hD1.2 k q h)⟩, hS⟩
theorem rb_MV {y : MethodName} {bytes : ByteArray} {maxL n index : Nat} {ws : List Cond} {rf rl : Nat} {As : List Value} (cx : cX p s m args meth c cc own nL ret Ts D cy G A) (w : wd D cy G M A s.heap H locs) (hR : R.cells = b.1 ∧ R.slots = b.2) (hls : ls.size = nL) {f : uS → (gS → mS → Unit → Prop) → Prop} {k : uS → gS → mS → Unit → Prop} (h : q_ca b u f k) (hM : ∀ {v : uS} {post : gS → mS → Unit → Prop}, f v post → cbV l y ws { frames := rf, cells := v.1, slots := v.2, locals := rl } D cy G M (.ref a :: As) v post) {host : String} (cw : ∀ v : uS, va_CN R s args own index y host bytes maxL none ws { frames := rf, cells := v.1, slots := v.2, locals := rl } v.1 v.2 n ∧ y.name = "<init>" ∧ (Cond.instanceMethod y).before args s = true) (hn : As.length = n) (hst : st0 = As.reverse ++ .ref a :: rest) (hW : (rest.map fun v => v.category).sum ≤ 8) (hdg : decode cc pc = .ok (.invokespecial index, 3))
    (kk : ∀ (u1 : uS) (G1 : gS) (M1 : mS) (r : Unit) (H1 : Heap) (locs1 : List Loc), k u1 G1 M1 r → uL u1 b → ext G G1 → cX p s m args meth c cc own nL ret Ts D cy G1 A → wd D cy G1 M1 A s.heap H1 locs1 → W p l e R s m args below meth c H1 locs1 u1.1 u1.2 Q (F0 m (pc + 3) ls rest)) : W p l e R s m args below meth c H locs u.1 u.2 Q (F0 m pc ls st0) := by
  obtain ⟨v, hv, h⟩ := h
  have cw := cw v
  have fr := wd_free cx w
  obtain ⟨hx, hb, hml, hown, hts, hr, hlocks, hK, hA, hG, hsx⟩ := id cx
  refine va_callv (va_runIN (As := As) (rest := rest) ⟨hx, hb, hml, hown, hts⟩ (hM h H.size) cw ⟨blind _ D cy G M H.size, wd_pre cx w _⟩ rfl hn hls hst (lv_room hW) hdg ⟨by rw [hR.1]; exact hv.1, by rw [hR.2]; exact hv.2⟩) w.2.2 (fun q _ h => fr q h) fr (fun x t H1 locs1 ht hvm hq hB hz1 hk1 hS => ?_)
  obtain ⟨hP1, hD1, hG1, hE1⟩ := hB
  rw [ht] at hP1
  exact kk (uP u v) x.1 x.2 () H1 locs1 hq hv hE1 (cX_G cx hG1) ⟨hP1, ⟨hD1.1, fun k q h => fr _ (hD1.2 k q h)⟩, hS⟩
theorem rb_cc {y : MethodName} {bytes : ByteArray} {maxL n index : Nat} {ws : List Cond} {rm : Room} {As : List Value} {v : uS} (cx : cX p s m args meth c cc own nL ret Ts D cy G A) (w : wd D cy G M A s.heap H locs) (hR : R.cells = b.1 ∧ R.slots = b.2) (hls : ls.size = nL) {f : (gS → mS → Prop) → Prop} {k : uS → gS → mS → Prop} (h : q_cc b u v f k) (hM : ∀ {post : gS → mS → Prop}, f post → ctN l y ws rm D cy G M (.ref a :: As) v.1 v.2 post) (cw : CallB R s args own index y bytes maxL none ws rm v.1 v.2 n ∧ y.name = "<init>" ∧ (Cond.instanceMethod y).before args s = true) (hn : As.length = n) (hst : st0 = As.reverse ++ .ref a :: rest) (hW : (rest.map fun v => v.category).sum ≤ 8) (hdg : decode cc pc = .ok (.invokespecial index, 3))
    (kk : ∀ (u1 : uS) (G1 : gS) (M1 : mS) (H1 : Heap) (locs1 : List Loc), k u1 G1 M1 → uL u1 b → ext G G1 → cX p s m args meth c cc own nL ret Ts D cy G1 A → wd D cy G1 M1 A s.heap H1 locs1 → W p l e R s m args below meth c H1 locs1 u1.1 u1.2 Q (F0 m (pc + 3) ls rest)) : W p l e R s m args below meth c H locs u.1 u.2 Q (F0 m pc ls st0) := by
  obtain ⟨hv, h⟩ := h
  exact r_callN cx w ⟨by rw [hR.1]; exact hv.1, by rw [hR.2]; exact hv.2⟩ hls (hM h) cw hn hst hW hdg (fun G1 M1 H1 locs1 h1 he cx1 w1 => kk (uP u v) G1 M1 H1 locs1 h1 hv he cx1 w1)
end BMet
