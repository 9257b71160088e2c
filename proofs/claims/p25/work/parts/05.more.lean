/-! further words of the mirror and rows -/
theorem nn {α : Type} {x : α} {P : Prop} (h : (none : Option α) = some x) : P := nomatch h
def fu : Nat := 100000
def cpy0 (f g : Nat → Int32) (n : Nat) : Nat → Int32 := va_cpy f g 0 0 n
def o_wC {α : Type} (M : mS) (a : Nat) (f : Nat → Int32) (k : mS → Option α) : Option α := k (wC M a f)
theorem x_wC {α : Type} {M : mS} {a : Nat} {f : Nat → Int32} {k : mS → Option α} {z : α} (h : o_wC M a f k = some z) : ∃ M1, M1 = wC M a f ∧ k M1 = some z := ⟨_, rfl, h⟩
theorem mI_wC_ne {M : mS} {a b : Nat} {f : Nat → Int32} (h : b ≠ a) : mI (wC M a f) b = mI M b := if_neg h
theorem mI_wC_eq {M : mS} {a : Nat} {f : Nat → Int32} : mI (wC M a f) a = f := if_pos rfl
theorem z_nar {v : Int32} (h : v = 0 ∨ v = 1) : narrow .boolean (.int v) = .int v := by rcases h with rfl | rfl <;> rfl
theorem z_fit {v : Int32} (h : v = 0 ∨ v = 1) : fits .boolean (.int v) = true := by rcases h with rfl | rfl <;> rfl
section PoolMore
variable {p : Program} {l : Launch} {e : Env} {R : Room} {s : State} {m : MethodId} {args : Array Value} {below : List Frame} {meth : Method} {c : Code} {H : Heap} {locs : List Loc} {cells slots : Nat} {Q : State → Prop} {cc : ByteArray} {own : String} {nL : Nat} {ret : Option FieldType} {Ts : List Cond} {D : va_G} {cy : cyS} {G : gS} {M : mS} {A : Nat → Prop} {pc : Nat} {ls : Array Slot} {rest : List Value} {a : Nat}
theorem r_topI {x y : Int32} (h : y = x) (k : W p l e R s m args below meth c H locs cells slots Q (F0 m pc ls (.int y :: rest))) : W p l e R s m args below meth c H locs cells slots Q (F0 m pc ls (.int x :: rest)) := h ▸ k
theorem r_topJ {x y : Int64} (h : y = x) (k : W p l e R s m args below meth c H locs cells slots Q (F0 m pc ls (.long y :: rest))) : W p l e R s m args below meth c H locs cells slots Q (F0 m pc ls (.long x :: rest)) := h ▸ k
theorem r_copy (cx : cX p s m args meth c cc own nL ret Ts D cy G A) (w : wd D cy G M A s.heap H locs) (hml : c.maxLocals = ls.size) {index : Nat} (hlink : (Cond.methodLink own index arraycopyName).before args s = true) (hnat : (Cond.native arraycopyName).before args s = true) (hstat : (Cond.static arraycopyName).before args s = true) (hini : (Cond.initialized "java/lang/System").before args s = true) {a0 : Nat} (hL0 : a0 ∈ gL G) (hK0 : gK G a0 = 12) (hL : a ∈ gL G) (hk : gK G a = 12) {n : Int32} (hz : ¬ n < 0 ∧ n.toNatClampNeg ≤ gN G a0 ∧ n.toNatClampNeg ≤ gN G a) (hframes : 1 ≤ R.frames) (hlocals : (rest.map fun v => v.category).sum + (nativeFrameWords "java/lang/System" "arraycopy" 5 + 11) ≤ R.locals) (hdg : decode cc pc = .ok (.invokestatic index, 3)) {M1 : mS} (hM : M1 = wC M a (cpy0 (mI M a0) (mI M a) n.toNatClampNeg))
    (kk : ∀ (H1 : Heap) (locs1 : List Loc), wd D cy G M1 A s.heap H1 locs1 → W p l e R s m args below meth c H1 locs1 cells slots Q (F0 m (pc + 3) ls rest)) : W p l e R s m args below meth c H locs cells slots Q (F0 m pc ls (.int n :: .int 0 :: .ref a :: .int 0 :: .ref a0 :: rest)) := by
  obtain ⟨hx, hb, hml', hown, hts, hr, hlocks, hK, hA, hG, hsx⟩ := cx
  obtain ⟨hP, hD, hS⟩ := id w
  obtain ⟨q0, h0⟩ := pl_at (cy := cy) (M := M) hL0
  obtain ⟨q1, h1⟩ := pl_at (cy := cy) (M := M) hL
  have h2 := h1
  rw [pf_I hK0] at h0
  rw [pf_I hk] at h2
  have e0 : (0 : Int32).toNatClampNeg = 0 := sb_cl0
  refine va_copyi hx hb hml hown hlink hnat hstat hini hK hP hD hS q0 q1 0 0 h0 h2 rfl rfl rfl (by decide) (by decide) hz.1 (by rw [e0]; omega) (by rw [e0]; omega) (fun i _ => rfl) hframes hlocals hdg (fun H1 locs1 hP1 hD1 hS1 => ?_)
  rw [e0] at hP1 hD1
  have e := pl_set (e := .inl (cy.1, gN G a, .inl (va_cpy (mI M a0) (mI M a) 0 0 n.toNatClampNeg))) (M1 := M1) hD hL h1 (by rw [pf_I hk, hM, mI_wC_eq]; rfl) (fun b hb => pf_other (by rw [hM, mI_wC_ne hb]) (by rw [hM]; rfl))
  rw [e] at hP1 hD1
  exact kk H1 locs1 ⟨hP1, hD1, hS1⟩
theorem nwF (cx : cX p s m args meth c cc own nL ret Ts D cy G A) {q : String × Nat × String × String × String × String} (h : q ∈ nestF) : va_Nw (.fieldLinkNest q.1 q.2.1 q.2.2.1 q.2.2.2.1 q.2.2.2.2.1 q.2.2.2.2.2) s := by
  obtain ⟨hx, hb, hml, hown, hts, hr, hlocks, hK, hA, hG, hsx⟩ := cx
  exact hsx.2.2.2.1.1 q h
theorem nwM (cx : cX p s m args meth c cc own nL ret Ts D cy G A) {q : String × Nat × MethodName × String} (h : q ∈ nestM) : va_Nw (.methodLinkNest q.1 q.2.1 q.2.2.1 q.2.2.2) s := by
  obtain ⟨hx, hb, hml, hown, hts, hr, hlocks, hK, hA, hG, hsx⟩ := cx
  exact hsx.2.2.2.1.2.1 q h
theorem r_getIN {host : String} (cx : cX p s m args meth c cc own nL ret Ts D cy G A) (w : wd D cy G M A s.heap H locs) {ci k N index : Nat} {C : String} {T : u_T} (hL : a ∈ gL G) (hk : gK G a = ci) (hci : ci < 12) (hc : vwCl[ci]? = some (C, T, N)) (hin : ∀ w ∈ u_ws C T N, w ∈ Ts) (hkN : k < N) {v : Value} (hv : (pfs ci (gP G a) (mI M a))[k]? = some v) (hlink : va_Nw (Cond.fieldLinkNest own index (T k).1 (T k).2.1 (T k).2.2.1 host) s) (hdg : decode cc pc = .ok (.getfield index, 3))
    (kk : W p l e R s m args below meth c H locs cells slots Q (F0 m (pc + 3) ls (v :: rest))) : W p l e R s m args below meth c H locs cells slots Q (F0 m pc ls (.ref a :: rest)) := by
  obtain ⟨hx, hb, hml, hown, hts, hr, hlocks, hK, hA, hG, hsx⟩ := cx
  obtain ⟨hP, hD, hS⟩ := id w
  obtain ⟨q0, h0⟩ := wd_obj w hL hk hci
  exact va_getN hx hb hts hin hown hK hP q0 h0 hc k hkN (va_Nw.use rfl hlink) (fun _ h => h) hv hdg kk
theorem r_getRN {host : String} (cx : cX p s m args meth c cc own nL ret Ts D cy G A) (w : wd D cy G M A s.heap H locs) {ci k N index : Nat} {C : String} {T : u_T} (hL : a ∈ gL G) (hk : gK G a = ci) (hci : ci < 12) (hc : vwCl[ci]? = some (C, T, N)) (hin : ∀ w ∈ u_ws C T N, w ∈ Ts) (hkN : k < N) (hv : (pfs ci (gP G a) (mI M a))[k]? = some (va_rf (gP G a k))) {q : Nat} (hq : gP G a k = some q) (hlink : va_Nw (Cond.fieldLinkNest own index (T k).1 (T k).2.1 (T k).2.2.1 host) s) (hdg : decode cc pc = .ok (.getfield index, 3))
    (kk : W p l e R s m args below meth c H locs cells slots Q (F0 m (pc + 3) ls (.ref q :: rest))) : W p l e R s m args below meth c H locs cells slots Q (F0 m pc ls (.ref a :: rest)) := by
  rw [hq] at hv
  exact r_getIN cx w hL hk hci hc hin hkN hv hlink hdg kk
theorem r_putIN {host : String} (cx : cX p s m args meth c cc own nL ret Ts D cy G A) (w : wd D cy G M A s.heap H locs) {ci k N index : Nat} {C : String} {T : u_T} (ty0 : Nat → FieldType) (hty : ∀ k, k < N → parseFieldDescriptor (T k).2.2.1 = some (ty0 k)) (hnm : ∀ a, a < N → ∀ b, b < N → a ≠ b → (T a).2.1 ≠ (T b).2.1) (hL : a ∈ gL G) (hk : gK G a = ci) (hci : ci < 12) (hc : vwCl[ci]? = some (C, T, N)) (hin : ∀ w ∈ u_ws C T N, w ∈ Ts) (hkN : k < N) (hfin : (T k).2.2.2 = false) {ty : FieldType} {v : Int32} (hd : parseFieldDescriptor (T k).2.2.1 = some ty) (hn : narrow ty (.int v) = .int v) (hfit : fits ty (.int v) = true) (hst : ∀ (P : Nat → Option Nat) (I : Nat → Int32) (v : Int32), pfs ci P (upd I k v) = (pfs ci P I).set k (.int v)) (hlen : k < (pfs ci (gP G a) (mI M a)).length) (hlink : va_Nw (Cond.fieldLinkNest own index (T k).1 (T k).2.1 (T k).2.2.1 host) s) (hdg : decode cc pc = .ok (.putfield index, 3)) {M1 : mS} (hM : M1 = wI M a k v)
    (kk : ∀ (H1 : Heap) (locs1 : List Loc), wd D cy G M1 A s.heap H1 locs1 → W p l e R s m args below meth c H1 locs1 cells slots Q (F0 m (pc + 3) ls rest)) : W p l e R s m args below meth c H locs cells slots Q (F0 m pc ls (.int v :: .ref a :: rest)) := by
  obtain ⟨hx, hb, hml, hown, hts, hr, hlocks, hK, hA, hG, hsx⟩ := cx
  obtain ⟨hP, hD, hS⟩ := id w
  obtain ⟨q0, h1⟩ := pl_at (cy := cy) (M := M) hL
  have h0 := h1
  rw [pf_obj hk hci] at h0
  refine va_putN hx hb hts hin ty0 hty hnm hown hK hP hD hS q0 h0 hc k hkN (va_Nw.use rfl hlink) (fun _ h => h) hfin hd hn hfit hlen hdg (fun H1 locs1 hP1 hD1 hS1 => ?_)
  have e := pl_set (e := .inr (ci, (pfs ci (gP G a) (mI M a)).set k (.int v))) (M1 := M1) hD hL h1 (by rw [pf_obj hk hci, ← hst, hM, mI_wI_eq]) (fun b hb => pf_other (by rw [hM, mI_wI_ne hb]) (by rw [hM]; rfl))
  rw [e] at hP1 hD1
  exact kk H1 locs1 ⟨hP1, hD1, hS1⟩
theorem r_putIF (cx : cX p s m args meth c cc own nL ret Ts D cy G A) (w : wd D cy G M A s.heap H locs) {ci k N index : Nat} {C : String} {T : u_T} (ty0 : Nat → FieldType) (hty : ∀ k, k < N → parseFieldDescriptor (T k).2.2.1 = some (ty0 k)) (hnm : ∀ a, a < N → ∀ b, b < N → a ≠ b → (T a).2.1 ≠ (T b).2.1) (hL : a ∈ gL G) (hk : gK G a = ci) (hci : ci < 12) (hc : vwCl[ci]? = some (C, T, N)) (hin : ∀ w ∈ u_ws C T N, w ∈ Ts) (hkN : k < N) (hfin : (T k).2.2.2 = true) (hinit : meth.name = "<init>") (hdecl : (T k).1 = own) {ty : FieldType} {v : Int32} (hd : parseFieldDescriptor (T k).2.2.1 = some ty) (hn : narrow ty (.int v) = .int v) (hfit : fits ty (.int v) = true) (hst : ∀ (P : Nat → Option Nat) (I : Nat → Int32) (v : Int32), pfs ci P (upd I k v) = (pfs ci P I).set k (.int v)) (hlen : k < (pfs ci (gP G a) (mI M a)).length) (hlink : Cond.fieldLink own index (T k).1 (T k).2.1 (T k).2.2.1 ∈ Ts) (hdg : decode cc pc = .ok (.putfield index, 3)) {M1 : mS} (hM : M1 = wI M a k v)
    (kk : ∀ (H1 : Heap) (locs1 : List Loc), wd D cy G M1 A s.heap H1 locs1 → W p l e R s m args below meth c H1 locs1 cells slots Q (F0 m (pc + 3) ls rest)) : W p l e R s m args below meth c H locs cells slots Q (F0 m pc ls (.int v :: .ref a :: rest)) := by
  obtain ⟨hx, hb, hml, hown, hts, hr, hlocks, hK, hA, hG, hsx⟩ := cx
  obtain ⟨hP, hD, hS⟩ := id w
  obtain ⟨q0, h1⟩ := pl_at (cy := cy) (M := M) hL
  have h0 := h1
  rw [pf_obj hk hci] at h0
  refine va_putF hx hb hts hin ty0 hty hnm hown hK hP hD hS q0 h0 hc k hkN (hts _ hlink) (fun _ h => h) hfin hinit hdecl hd hn hfit hlen hdg (fun H1 locs1 hP1 hD1 hS1 => ?_)
  have e := pl_set (e := .inr (ci, (pfs ci (gP G a) (mI M a)).set k (.int v))) (M1 := M1) hD hL h1 (by rw [pf_obj hk hci, ← hst, hM, mI_wI_eq]) (fun b hb => pf_other (by rw [hM, mI_wI_ne hb]) (by rw [hM]; rfl))
  rw [e] at hP1 hD1
  exact kk H1 locs1 ⟨hP1, hD1, hS1⟩
end PoolMore
