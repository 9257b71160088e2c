/-! methods that throw: the answer is a number or an exception's class; nothing else is new but the exception -/
def ctX (l : Launch) (y : MethodName) (ws : List Cond) (rm : Room) (D : va_G) (cy : cyS) (G : gS) (M : mS) (av : List Value) (M' : mS) (res : Int32 ⊕ String) : Prop := ∀ sz : Nat, vx_Met l y ws rm (va_Pc av (wIn D cy G M sz)) (va_Qi (fun (r' : Int32) (_ : Unit) => res = .inl r') (fun _ t => wOut D cy G M' t) (pA G sz)) (vx_X (fun (_ : Unit) => True) (fun E _ t => res = .inr E ∧ wOut D cy G M' t) (pA G sz)) 1 6 (pA G sz)
abbrev ex_names : List String := ["java/lang/RuntimeException", "java/lang/Exception"]
section Throws
variable {p : Program} {l : Launch} {e : Env} {R : Room} {s : State} {m : MethodId} {args : Array Value} {below : List Frame} {meth : Method} {c : Code} {H : Heap} {locs : List Loc} {cells slots : Nat} {Q : State → Prop} {cc : ByteArray} {own : String} {nL : Nat} {ret : Option FieldType} {Ts : List Cond} {D : va_G} {cy : cyS} {G : gS} {M : mS} {A : Nat → Prop} {pc : Nat} {ls : Array Slot} {rest st0 : List Value} {a : Nat}
theorem wd_later (w : wd D cy G M A s.heap H locs) {t : State} (h1 : H.size ≤ t.heap.size) (h2 : ∀ q : Nat, q < H.size → t.heap[q]? = H[q]?) : wOut D cy G M t ∧ va_F A s t := by
  obtain ⟨hP, hD, hS⟩ := w
  refine ⟨hP.kept (fun k q hk => h2 _ (va_at.lt (hP k q hk))), Nat.le_trans hS.1 h1, fun q hq hA => ?_⟩
  rw [h2 q (Nat.lt_of_lt_of_le hq hS.1)]
  exact hS.2.1 q hq hA
theorem r_throw (cx : cX p s m args meth c cc own nL ret Ts D cy G A) (w : wd D cy G M A s.heap H locs) (hl : l.stackTraces = false) (hout : ∀ x ∈ c.exceptionTable.toList, False) (hls : ls.size = nL) {M' : mS} {res : Int32 ⊕ String} {cls text : String} {ik is ic : Nat} (h : some (M, (Sum.inr cls : Int32 ⊕ String)) = some (M', res))
    (hcls : Bundle.fit cls = true) (hk : Cond.classLink own ik cls ∈ Ts) (hini : Cond.initialized cls ∈ Ts) (hstr : (own, is, text) ∈ strL) (hca : (cls, cls) ∈ castL) (hgw : ∀ w ∈ (vx_atS own ic cls ex_names).filter goodWord, w ∈ Ts) (hng : ∀ w ∈ (vx_atS own ic cls ex_names).filter (fun w => !goodWord w), w ∈ [Cond.castable cls cls] ++ declL.map Cond.declares) (hgood : ∀ w ∈ Cond.classLink own ik cls :: Cond.initialized cls :: vx_atS own ic cls ex_names, vx_ot w = true)
    (d0 : decode cc pc = .ok (.new ik, 3)) (d3 : decode cc (pc + 3) = .ok (.dup, 1)) (d4 : decode cc (pc + 4) = .ok (.ldc is, 2)) (d6 : decode cc (pc + 6) = .ok (.invokespecial ic, 3)) (d9 : decode cc (pc + 9) = .ok (.athrow, 1))
    (hRf : 5 < R.frames) (hRl : (rest.map fun v => v.category).sum + 82 ≤ R.locals) (hRc : 1 ≤ R.cells) (hRs : 6 ≤ R.slots) :
    W p l e R s m args below meth c H locs 0 0 (vx_MQ below (va_Qi (fun (r' : Int32) (_ : Unit) => res = .inl r') (fun _ t => wOut D cy G M' t) A) (vx_X (fun (_ : Unit) => True) (fun E _ t => res = .inr E ∧ wOut D cy G M' t) A) args s 1 6 A) (F0 m pc ls rest) := by
  cases h
  obtain ⟨hx, hb, hml, hown, hts, hr, hlocks, hK, hA, hG, hsx⟩ := id cx
  obtain ⟨sa, hsa⟩ := hsx.2.2.2.2.1 _ hstr
  have hcw : (Cond.castable cls cls).before args s = true := va_Nw.use rfl (hsx.2.2.2.1.2.2.1 _ hca)
  have hdw : ∀ w ∈ declL.map Cond.declares, w.before args s = true := fun w hw => by
    obtain ⟨y, hy, rfl⟩ := List.mem_map.mp hw
    exact va_Nw.use rfl (hsx.2.2.2.1.2.2.2.1 y hy)
  exact vx_throwS (own := own) (cls := cls) (text := text) (names := ex_names) hx hb hl hown hcls (by decide +kernel) (hts _ hk) (hts _ hini) hsa (vx_hat (fun w hw => hts w (hgw w hw)) hng (vx_c hcw hdw)) hgood hsx.2.2.2.2.2.1.1 hsx.2.2.2.2.2.1.2 w.2.2 (hls.trans hml.symm) d0 d3 d4 d6 d9 (fun x hx => (hout x hx).elim) hRf hRl (by omega) (by omega) hlocks
    (fun t ht h1 h2 => ⟨(), trivial, ⟨rfl, (wd_later w h1 h2).1⟩, (wd_later w h1 h2).2⟩) w.2.2.2.2 (Nat.le_refl _) (Nat.le_refl _)
theorem r_xiret (cx : cX p s m args meth c cc own nL (some .int) Ts D cy G A) (w : wd D cy G M A s.heap H locs) {M' : mS} {v : Int32} {res : Int32 ⊕ String} (h : some (M, (Sum.inl v : Int32 ⊕ String)) = some (M', res)) (hdg : decode cc pc = .ok (.ireturn, 1)) : W p l e R s m args below meth c H locs 0 0 (vx_MQ below (va_Qi (fun (r' : Int32) (_ : Unit) => res = .inl r') (fun _ t => wOut D cy G M' t) A) (vx_X (fun (_ : Unit) => True) (fun E _ t => res = .inr E ∧ wOut D cy G M' t) A) args s 1 6 A) (F0 m pc ls [.int v]) := by
  cases h
  obtain ⟨hx, hb, hml, hown, hts, hr, hlocks, hK, hA, hG, hsx⟩ := cx
  refine W.widen (k := 1) (n := 6) (by omega) (by omega) (vx_ret ?_)
  exact W.iret hx hb hr (fun t ht hW => ⟨⟨v, (), rfl, rfl, by show va_P _ _ _ _; rw [ht]; exact w.1⟩, w.2.2.F ht⟩) w.2.2.2.2 hdg hlocks
theorem r_xzret (cx : cX p s m args meth c cc own nL (some .boolean) Ts D cy G A) (w : wd D cy G M A s.heap H locs) {M' : mS} {v : Int32} {res : Int32 ⊕ String} (hz : v = 0 ∨ v = 1) (h : some (M, (Sum.inl v : Int32 ⊕ String)) = some (M', res)) (hdg : decode cc pc = .ok (.ireturn, 1)) : W p l e R s m args below meth c H locs 0 0 (vx_MQ below (va_Qi (fun (r' : Int32) (_ : Unit) => res = .inl r') (fun _ t => wOut D cy G M' t) A) (vx_X (fun (_ : Unit) => True) (fun E _ t => res = .inr E ∧ wOut D cy G M' t) A) args s 1 6 A) (F0 m pc ls [.int v]) := by
  cases h
  obtain ⟨hx, hb, hml, hown, hts, hr, hlocks, hK, hA, hG, hsx⟩ := cx
  refine W.widen (k := 1) (n := 6) (by omega) (by omega) (vx_ret ?_)
  exact W.zret (ty := .boolean) hx hb hr (by rcases hz with rfl | rfl <;> rfl) (fun t ht hW => ⟨⟨v, (), rfl, rfl, by show va_P _ _ _ _; rw [ht]; exact w.1⟩, w.2.2.F ht⟩) w.2.2.2.2 hdg hlocks
end Throws
section ThrowMet
variable {l : Launch} {y : MethodName} {ws ws' : List Cond} {rm : Room} {D : va_G} {cy : cyS} {G : gS} {M M1 : mS} {av : List Value} {cc : ByteArray} {nL : Nat} {ret : Option FieldType} {lv : List (Nat × Value)}
theorem ctX_of {res : Int32 ⊕ String} (hG : wt G) (hy : plainName y.cls = true) (hw : ws = Cond.code y cc nL ret :: ws') (hn : (lg_sl av).length ≤ nL) (hlv : lv_args 0 av = lv) (body : ∀ (p : Program) (e : Env) (s : State) (m : MethodId) (args : Array Value) (below : List Frame) (meth : Method) (c : Code) (A : Nat → Prop) (ls : Array Slot), cX p s m args meth c cc y.cls nL ret ws D cy G A → (∀ x ∈ c.exceptionTable.toList, False) → wd D cy G M A s.heap s.heap [] → lv_has ls nL lv → W p l e rm s m args below meth c s.heap [] 0 0 (vx_MQ below (va_Qi (fun (r' : Int32) (_ : Unit) => res = .inl r') (fun _ t => wOut D cy G M1 t) A) (vx_X (fun (_ : Unit) => True) (fun E _ t => res = .inr E ∧ wOut D cy G M1 t) A) args s 1 6 A) (F0 m 0 ls [])) : ctX l y ws rm D cy G M av M1 res := by
  intro sz
  refine vx_ofW (cc := cc) (maxL := nL) (ret := ret) hy hw ?_
  intro p e s m args below meth c s₁ B hml hex hv
  obtain ⟨rfl, hsz, hP, hK, hD0, hsx⟩ := hv
  subst hsz
  rw [lg_entry_eq]
  have hl := lv_entry av (n := nL) hn
  rw [hlv] at hl
  have hD : va_D (pA G s.heap.size) (pl cy G M) := pl_D hD0 (fun q hq => Or.inl hq)
  exact body p e s m _ below meth c (pA G s.heap.size) _ ⟨B.exec, B.bytes, hml, findClass_of_methodNamed B.named, atoms_spec (ws := ws) B.pre, B.returns, B.notSynchronized, hK, fun q h => Or.inr h, hG, hsx⟩ hex ⟨hP, hD, va_S.rf⟩ hl
end ThrowMet
theorem ng_59 : ∀ w ∈ (vx_atS "FlagAnts" 63 "java/lang/IllegalStateException" ex_names).filter (fun w => !goodWord w), w ∈ [Cond.castable "java/lang/IllegalStateException" "java/lang/IllegalStateException"] ++ declL.map Cond.declares := by decide +kernel
theorem ng_73 : ∀ w ∈ (vx_atS "FlagAnts" 77 "java/lang/IllegalArgumentException" ex_names).filter (fun w => !goodWord w), w ∈ [Cond.castable "java/lang/IllegalArgumentException" "java/lang/IllegalArgumentException"] ++ declL.map Cond.declares := by decide +kernel
theorem ng_92 : ∀ w ∈ (vx_atS "FlagAnts" 96 "java/lang/IndexOutOfBoundsException" ex_names).filter (fun w => !goodWord w), w ∈ [Cond.castable "java/lang/IndexOutOfBoundsException" "java/lang/IndexOutOfBoundsException"] ++ declL.map Cond.declares := by decide +kernel
theorem ot_59 : ∀ w ∈ Cond.classLink "FlagAnts" 59 "java/lang/IllegalStateException" :: Cond.initialized "java/lang/IllegalStateException" :: vx_atS "FlagAnts" 63 "java/lang/IllegalStateException" ex_names, vx_ot w = true := by decide +kernel
theorem ot_73 : ∀ w ∈ Cond.classLink "FlagAnts" 73 "java/lang/IllegalArgumentException" :: Cond.initialized "java/lang/IllegalArgumentException" :: vx_atS "FlagAnts" 77 "java/lang/IllegalArgumentException" ex_names, vx_ot w = true := by decide +kernel
theorem ot_92 : ∀ w ∈ Cond.classLink "FlagAnts" 92 "java/lang/IndexOutOfBoundsException" :: Cond.initialized "java/lang/IndexOutOfBoundsException" :: vx_atS "FlagAnts" 96 "java/lang/IndexOutOfBoundsException" ex_names, vx_ot w = true := by decide +kernel
