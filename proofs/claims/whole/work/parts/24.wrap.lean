/-! the law's own methods: a call that may throw, its exceptions caught -/
def ctW (l : Launch) (y : MethodName) (ws : List Cond) (rm : Room) (D : va_G) (cy : cyS) (G : gS) (M : mS) (av : List Value) (M' : mS) (r : Int32) : Prop := ∀ sz : Nat, Met l y ws rm (va_Pc av (wIn D cy G M sz)) (va_Qi (fun (r' : Int32) (_ : Unit) => r' = r) (fun _ t => wOut D cy G M' t) (pA G sz)) 1 6 (pA G sz)
def o_tr {α : Type} (x : Option (mS × (Int32 ⊕ String))) (k : mS → Int32 → Option α) (kx : mS → String → Option α) : Option α := match x with
  | none => none
  | some (M, .inl v) => k M v
  | some (M, .inr E) => kx M E
theorem x_tr {α : Type} {x : Option (mS × (Int32 ⊕ String))} {k : mS → Int32 → Option α} {kx : mS → String → Option α} {z : α} (h : o_tr x k kx = some z) : (∃ M1 v, x = some (M1, .inl v) ∧ k M1 v = some z) ∨ (∃ M1 E, x = some (M1, .inr E) ∧ kx M1 E = some z) := by
  match x, h with
  | some (M, .inl v), h => exact Or.inl ⟨M, v, rfl, h⟩
  | some (M, .inr E), h => exact Or.inr ⟨M, E, rfl, h⟩
theorem metOfWH {l : Launch} {y : MethodName} {ws ws' : List Cond} {rm : Room} {Pc : Array Value → State → Prop} {Qc : Array Value → State → Outcome → State → Prop} {mc ms : Nat} {free : Addr → Prop} {cc : ByteArray} {maxL : Nat} {ret : Option FieldType} {hh : List (Nat × Nat × Nat × Nat)}
    (hy : plainName y.cls = true) (hw : ws = Cond.codeWith y cc maxL ret hh :: ws')
    (body : ∀ p e s m args below meth c s₁, BodyLoose p l y (headSpec ws rm) cc maxL ret e s m args below meth c s₁ → c.maxLocals = maxL → Pc args s →
      W p l e (headSpec ws rm).room s m args below meth c s.heap [] 0 0 (MQ below Qc args s mc ms free) (entryFrame m args maxL)) : Met l y ws rm Pc Qc mc ms free := by
  refine MetFree.of_bodyS (code := cc) (maxLocals := maxL) (ret := ret) hy ?_ ?_
  · intro args s m h hn
    obtain ⟨m9, meth, c, hn9, h1, h2, h3, h4, -, h5, h6, -⟩ := Cond.codeWith_spec (atoms_spec (ws := ws) h _ (by rw [hw]; exact List.mem_cons_self))
    cases hn.symm.trans hn9
    exact ⟨meth, c, h1, h2, h3, h4, h5, h6⟩
  · intro p e s m args below meth c s₁ B hml hP _
    have hh0 : s₁.heap = s.heap := by rw [B.state]; rfl
    obtain ⟨t, a1, o, b1, b2, b3⟩ := body p e s m args below meth c s₁ B hml hP s₁ hh0 (Stand.of_body B)
    exact ⟨t, o, a1, b1, b2, ⟨b3.1, b3.2⟩⟩
section WrapMet
variable {l : Launch} {y : MethodName} {ws ws' : List Cond} {rm : Room} {D : va_G} {cy : cyS} {G : gS} {M M1 : mS} {av : List Value} {cc : ByteArray} {nL : Nat} {ret : Option FieldType} {lv : List (Nat × Value)} {hh : List (Nat × Nat × Nat × Nat)}
theorem ctW_of {r : Int32} (hG : wt G) (hy : plainName y.cls = true) (hw : ws = Cond.codeWith y cc nL ret hh :: ws') (hn : (lg_sl av).length ≤ nL) (hlv : lv_args 0 av = lv) (body : ∀ (p : Program) (e : Env) (s : State) (m : MethodId) (args : Array Value) (below : List Frame) (meth : Method) (c : Code) (A : Nat → Prop) (ls : Array Slot), cX p s m args meth c cc y.cls nL ret ws D cy G A → c.exceptionTable.toList = tableOf hh → wd D cy G M A s.heap s.heap [] → lv_has ls nL lv → W p l e rm s m args below meth c s.heap [] 0 0 (MQ below (va_Qi (fun (r' : Int32) (_ : Unit) => r' = r) (fun _ t => wOut D cy G M1 t) A) args s 1 6 A) (F0 m 0 ls [])) : ctW l y ws rm D cy G M av M1 r := by
  intro sz
  refine metOfWH (cc := cc) (maxL := nL) (ret := ret) hy hw ?_
  intro p e s m args below meth c s₁ B hml hv
  obtain ⟨rfl, hsz, hP, hK, hD0, hsx⟩ := hv
  subst hsz
  rw [lg_entry_eq]
  have hl := lv_entry av (n := nL) hn
  rw [hlv] at hl
  have hD : va_D (pA G s.heap.size) (pl cy G M) := pl_D hD0 (fun q hq => Or.inl hq)
  have hts := atoms_spec (ws := ws) B.pre
  exact body p e s m _ below meth c (pA G s.heap.size) _ ⟨B.exec, B.bytes, hml, findClass_of_methodNamed B.named, hts, B.returns, B.notSynchronized, hK, fun q h => Or.inr h, hG, hsx⟩ (vx_table (x := y) B (hts _ (by rw [hw]; exact List.mem_cons_self))) ⟨hP, hD, va_S.rf⟩ hl
end WrapMet
section WrapRows
variable {p : Program} {l : Launch} {e : Env} {R : Room} {s : State} {m : MethodId} {args : Array Value} {below : List Frame} {meth : Method} {c : Code} {H : Heap} {locs : List Loc} {cells slots : Nat} {Q : State → Prop} {cc : ByteArray} {own : String} {nL : Nat} {ret : Option FieldType} {Ts : List Cond} {D : va_G} {cy : cyS} {G : gS} {M M1 : mS} {A : Nat → Prop} {pc : Nat} {ls : Array Slot} {rest st0 : List Value} {a : Nat}
theorem r_xcallV {y : MethodName} {bytes : ByteArray} {maxL n index : Nat} {yret : Option FieldType} {ws : List Cond} {rm : Room} {C : String} {As : List Value} {res : Int32 ⊕ String} (cx : cX p s m args meth c cc own nL ret Ts D cy G A) (w : wd D cy G M A s.heap H locs) (hcs : cells + 1 ≤ R.cells ∧ slots + 6 ≤ R.slots) (hls : ls.size = nL) (hM : ctX l y ws rm D cy G M (.ref a :: As) M1 res) (cw : CallW R s args own C index y bytes maxL yret ws rm 1 6 n) {ci : Nat} {T : u_T} {N : Nat} (hL : a ∈ gL G) (hk : gK G a = ci) (hci : ci < 12) (hc : vwCl[ci]? = some (C, T, N)) (hn : As.length = n) (hst : st0 = As.reverse ++ .ref a :: rest) (hW : (rest.map fun v => v.category).sum ≤ 8) (hdg : decode cc pc = .ok (.invokevirtual index, 3))
    (kx : ∀ (E : String) (ce : Cell) (q : Addr) (H1 : Heap) (locs1 : List Loc), res = .inr E → wd D cy G M1 A s.heap H1 locs1 → H1[q]? = some ce → ce.vm = .none → s.vm.findClass E = some ce.cls → vx_W p l e R s m args below meth c H1 locs1 (cells + 1) (slots + 6) Q (F0 m pc ls rest) q)
    (kk : ∀ (r : Int32) (H1 : Heap) (locs1 : List Loc), res = .inl r → wd D cy G M1 A s.heap H1 locs1 → W p l e R s m args below meth c H1 locs1 (cells + 1) (slots + 6) Q (F0 m (pc + 3) ls (.int r :: rest))) : W p l e R s m args below meth c H locs cells slots Q (F0 m pc ls st0) := by
  have fr := wd_free cx w
  obtain ⟨hx, hb, hml, hown, hts, hr, hlocks, hK, hA, hG, hsx⟩ := id cx
  refine vx_calli (vx_runV (As := As) (rest := rest) ⟨hx, hb, hml, hown, hts⟩ (hM H.size) cw ⟨blind _ D cy G M H.size, wd_recv cx w hL hk hci hc, wd_pre cx w _⟩ rfl hn hls hst (lv_room hW) hdg hcs) w.2.2 (fun q _ h => fr q h) fr (fun q _ h => fr q h) (fun E ce q u t H1 locs1 ht hvm hq hB hz1 hk1 hS h1 h2 h3 => ?_) (fun r1 u t H1 locs1 ht hvm hq hB hz1 hk1 hS => ?_)
  · have hP1 : va_P D vwCl (pl cy G M1) t.heap := hB.2
    rw [ht] at hP1
    exact kx E ce q H1 locs1 hB.1 ⟨hP1, pl_D w.2.1 (pl_in w.2.1), hS⟩ h1 h2 h3
  · have hP1 : va_P D vwCl (pl cy G M1) t.heap := hB
    rw [ht] at hP1
    exact kk r1 H1 locs1 hq ⟨hP1, pl_D w.2.1 (pl_in w.2.1), hS⟩
theorem r_callSW {y : MethodName} {bytes : ByteArray} {maxL n index : Nat} {yret : Option FieldType} {hh : List (Nat × Nat × Nat × Nat)} {ws : List Cond} {rm : Room} {As : List Value} {r : Int32} (cx : cX p s m args meth c cc own nL ret Ts D cy G A) (w : wd D cy G M A s.heap H locs) (hcs : cells + 1 ≤ R.cells ∧ slots + 6 ≤ R.slots) (hls : ls.size = nL) (hM : ctW l y ws rm D cy G M As M1 r) (cw : vx_CSW R s args own index y bytes maxL yret hh ws rm 1 6 n) (hn : As.length = n) (hst : st0 = As.reverse ++ rest) (hW : (rest.map fun v => v.category).sum ≤ 8) (hdg : decode cc pc = .ok (.invokestatic index, 3))
    (kk : ∀ (H1 : Heap) (locs1 : List Loc), wd D cy G M1 A s.heap H1 locs1 → W p l e R s m args below meth c H1 locs1 (cells + 1) (slots + 6) Q (F0 m (pc + 3) ls (.int r :: rest))) : W p l e R s m args below meth c H locs cells slots Q (F0 m pc ls st0) := by
  have fr := wd_free cx w
  obtain ⟨hx, hb, hml, hown, hts, hr, hlocks, hK, hA, hG, hsx⟩ := id cx
  refine va_calli (vx_runSW (As := As) (rest := rest) ⟨hx, hb, hml, hown, hts⟩ (hM H.size) cw ⟨blind _ D cy G M H.size, wd_pre cx w _⟩ rfl hn hls hst (lv_room hW) hdg hcs) w.2.2 (fun q _ h => fr q h) fr (fun r1 u t H1 locs1 ht hvm hq hB hz1 hk1 hS => ?_)
  subst hq
  have hP1 : va_P D vwCl (pl cy G M1) t.heap := hB
  rw [ht] at hP1
  exact kk H1 locs1 ⟨hP1, pl_D w.2.1 (pl_in w.2.1), hS⟩
/-- caught by the first row of the table; by the second one -/
theorem r_catch1 (cx : cX p s m args meth c cc own nL ret Ts D cy G A) {f t h k : Nat} {suf : List (Nat × Nat × Nat × Nat)} (ht : c.exceptionTable.toList = tableOf ((f, t, h, k) :: suf)) {E : String} {ce : Cell} {q : Addr} (hin : covers (⟨f, t, h, k⟩ : ExceptionTableEntry) pc = true) (h0 : k ≠ 0) (hlink : Cond.classLink own k E ∈ Ts) (hca : (E, E) ∈ castL) (h1 : H[q]? = some ce) (h2 : ce.vm = .none) (h3 : s.vm.findClass E = some ce.cls)
    (kk : W p l e R s m args below meth c H locs cells slots Q (F0 m h ls [.ref q])) : vx_W p l e R s m args below meth c H locs cells slots Q (F0 m pc ls rest) q := by
  obtain ⟨hx, hb, hml, hown, hts, hr, hlocks, hK, hA, hG, hsx⟩ := id cx
  exact vx_catch (name := E) hown [] ⟨f, t, h, k⟩ (tableOf suf) ht (fun z hz => by cases hz) hin h0 (hts _ hlink) (va_Nw.use rfl (hsx.2.2.2.1.2.2.1 _ hca)) h1 h2 h3 kk
theorem r_catch2 (cx : cX p s m args meth c cc own nL ret Ts D cy G A) {f t h k f0 t0 h0' k0 : Nat} {suf : List (Nat × Nat × Nat × Nat)} (ht : c.exceptionTable.toList = tableOf ((f0, t0, h0', k0) :: (f, t, h, k) :: suf)) {E E0 : String} {ce : Cell} {q : Addr} (hin : covers (⟨f, t, h, k⟩ : ExceptionTableEntry) pc = true) (h0 : k ≠ 0) (h00 : k0 ≠ 0) (hlink : Cond.classLink own k E ∈ Ts) (hlink0 : Cond.classLink own k0 E0 ∈ Ts) (hnc : (E, E0) ∈ ncL) (hca : (E, E) ∈ castL) (h1 : H[q]? = some ce) (h2 : ce.vm = .none) (h3 : s.vm.findClass E = some ce.cls)
    (kk : W p l e R s m args below meth c H locs cells slots Q (F0 m h ls [.ref q])) : vx_W p l e R s m args below meth c H locs cells slots Q (F0 m pc ls rest) q := by
  obtain ⟨hx, hb, hml, hown, hts, hr, hlocks, hK, hA, hG, hsx⟩ := id cx
  exact vx_catch (name := E) hown [⟨f0, t0, h0', k0⟩] ⟨f, t, h, k⟩ (tableOf suf) ht (fun z hz => by rw [List.mem_singleton.mp hz]; exact Or.inr ⟨h00, E0, hts _ hlink0, hsx.2.2.2.1.2.2.2.2 _ hnc⟩) hin h0 (hts _ hlink) (va_Nw.use rfl (hsx.2.2.2.1.2.2.1 _ hca)) h1 h2 h3 kk
end WrapRows

-- L_feed
abbrev rmL_feed : Room := { frames := 7, cells := 1, slots := 6, locals := 145 }
def m_L_feed (G : gS) (M : mS) (a0 : Nat) (c1 : Int32) (c2 : Int32) (c3 : Int32) (c4 : Int32) (c5 : Int32) (a6 : Nat) : Option (mS × Int32) := o_tr (t_X9_feed G M a0 c1 c2 c3 c4 c5) (fun M1 r2 => o_ix (0 : Int32) (gN G a6) (o_wJ M1 a6 (Int32.toNatClampNeg (0 : Int32)) (Int32.toInt64 r2) (fun M6 => some (M6, (0 : Int32))))) (fun M1 E3 => if E3 = "java/lang/IllegalStateException" then some (M1, (1 : Int32)) else none)
set_option maxHeartbeats 4000000 in
set_option maxRecDepth 100000 in
theorem k_L_feed {l : Launch} {D : va_G} {cy : cyS} {G : gS} {M M' : mS} {r : Int32} {a0 : Nat} {c1 : Int32} {c2 : Int32} {c3 : Int32} {c4 : Int32} {c5 : Int32} {a6 : Nat} (hG : wt G) (hst : l.stackTraces = false) (hL0 : a0 ∈ gL G) (hK0 : gK G a0 = 8) (hL6 : a6 ∈ gL G) (hK6 : gK G a6 = 13) (h : m_L_feed G M a0 c1 c2 c3 c4 c5 a6 = some (M', r)) : ctW l yL_feed wsL_feed rmL_feed D cy G M [.ref a0, .int c1, .int c2, .int c3, .int c4, .int c5, .ref a6] M' r := by
  unfold m_L_feed at h
  refine ctW_of (cc := cL_feed) (nL := 8) (ret := (some .int)) (lv := [(0, .ref a0), (1, .int c1), (2, .int c2), (3, .int c3), (4, .int c4), (5, .int c5), (6, .ref a6)]) hG (by decide) rfl (Nat.le_of_ble_eq_true rfl) rfl ?_
  intro p e s m args below meth c A ls cx ht w hl
  obtain ⟨hx, hb, hml, hown, hts, hr, hlocks, hK, hA, -, hsx⟩ := id cx
  have hkn : 0 ≤ (rmL_feed).cells ∧ 0 ≤ (rmL_feed).slots := ⟨Nat.zero_le _, Nat.zero_le _⟩
  refine lv_aload hx hb dL_feed_0 (lv_at hl 6 rfl) ?_
  refine lv_iconst (v := (0 : Int32)) hx hb dL_feed_2 (by decide) ?_
  refine lv_aload_n hx hb dL_feed_3 rfl (lv_at hl 0 rfl) ?_
  refine lv_iload_n hx hb dL_feed_4 rfl (lv_at hl 1 rfl) ?_
  refine lv_iload_n hx hb dL_feed_5 rfl (lv_at hl 2 rfl) ?_
  refine lv_iload_n hx hb dL_feed_6 rfl (lv_at hl 3 rfl) ?_
  refine lv_iload hx hb dL_feed_7 (lv_at hl 4 rfl) ?_
  refine lv_iload hx hb dL_feed_9 (lv_at hl 5 rfl) ?_
  rcases x_tr h with ⟨M1, r2, y4, h⟩ | ⟨M1, E3, y4, h⟩
  · refine r_xcallV (As := [.int c1, .int c2, .int c3, .int c4, .int c5]) (rest := [.int ((0 : Int32)), .ref a6]) cx w ⟨Nat.le_of_ble_eq_true rfl, Nat.le_of_ble_eq_true rfl⟩ hl.1 (kt_X9_feed hG hst hL0 hK0 y4) (cwV 5 hts gL_feed_X9_feed rfl rfl rfl (by decide +kernel) ⟨Nat.le_of_ble_eq_true rfl, Nat.le_of_ble_eq_true rfl⟩) hL0 hK0 (by decide) rfl rfl rfl (Nat.le_of_ble_eq_true rfl) dL_feed_11 (fun E ce q H1 locs1 e => by cases e) (fun r1 H locs e w => ?_)
    cases e
    refine lv_i2l (v := (Int32.toInt64 r2)) hx hb dL_feed_14 rfl ?_
    obtain ⟨z5, h⟩ := x_ix h
    obtain ⟨M6, eM6, h⟩ := x_wJ h
    refine r_last cx w hL6 hK6 z5 dL_feed_15 eM6 (fun H locs w => ?_)
    refine lv_goto (tgt := 23) hx hb dL_feed_16 (by decide) ?_
    refine lv_iconst (v := (0 : Int32)) hx hb dL_feed_23 (by decide) ?_
    exact r_iret cx w h dL_feed_24
  · refine r_xcallV (As := [.int c1, .int c2, .int c3, .int c4, .int c5]) (rest := [.int ((0 : Int32)), .ref a6]) cx w ⟨Nat.le_of_ble_eq_true rfl, Nat.le_of_ble_eq_true rfl⟩ hl.1 (kt_X9_feed hG hst hL0 hK0 y4) (cwV 5 hts gL_feed_X9_feed rfl rfl rfl (by decide +kernel) ⟨Nat.le_of_ble_eq_true rfl, Nat.le_of_ble_eq_true rfl⟩) hL0 hK0 (by decide) rfl rfl rfl (Nat.le_of_ble_eq_true rfl) dL_feed_11 (fun E ce q H locs e w h1 h2 h3 => ?_) (fun r1 H locs e => by cases e)
    cases e
    rcases Decidable.em (E3 = "java/lang/IllegalStateException") with k7 | k7
    · have h := x_t h k7
      subst k7
      refine r_catch1 cx ht (by decide) (by decide) (List.mem_of_getElem? (i := 1) rfl) (List.mem_of_getElem? (i := 1) rfl) h1 h2 h3 ?_
      refine lv_astore (lv' := [(7, .ref q), (0, .ref a0), (1, .int c1), (2, .int c2), (3, .int c3), (4, .int c4), (5, .int c5), (6, .ref a6)]) hx hb dL_feed_19 hl (by decide) rfl (fun ls hl => ?_)
      refine lv_iconst (v := (1 : Int32)) hx hb dL_feed_21 (by decide) ?_
      exact r_iret cx w h dL_feed_22
    · have h := x_f h k7
      exact nn h
-- L_trim
abbrev rmL_trim : Room := { frames := 7, cells := 1, slots := 6, locals := 141 }
def m_L_trim (G : gS) (M : mS) (a0 : Nat) (c1 : Int32) (a2 : Nat) : Option (mS × Int32) := o_tr (t_X9_trim G M a0 c1) (fun M1 r2 => o_ix (0 : Int32) (gN G a2) (o_wJ M1 a2 (Int32.toNatClampNeg (0 : Int32)) (Int32.toInt64 r2) (fun M6 => some (M6, (0 : Int32))))) (fun M1 E3 => if E3 = "java/lang/IllegalArgumentException" then some (M1, (1 : Int32)) else none)
set_option maxHeartbeats 4000000 in
set_option maxRecDepth 100000 in
theorem k_L_trim {l : Launch} {D : va_G} {cy : cyS} {G : gS} {M M' : mS} {r : Int32} {a0 : Nat} {c1 : Int32} {a2 : Nat} (hG : wt G) (hst : l.stackTraces = false) (hL0 : a0 ∈ gL G) (hK0 : gK G a0 = 8) (hL2 : a2 ∈ gL G) (hK2 : gK G a2 = 13) (h : m_L_trim G M a0 c1 a2 = some (M', r)) : ctW l yL_trim wsL_trim rmL_trim D cy G M [.ref a0, .int c1, .ref a2] M' r := by
  unfold m_L_trim at h
  refine ctW_of (cc := cL_trim) (nL := 4) (ret := (some .int)) (lv := [(0, .ref a0), (1, .int c1), (2, .ref a2)]) hG (by decide) rfl (Nat.le_of_ble_eq_true rfl) rfl ?_
  intro p e s m args below meth c A ls cx ht w hl
  obtain ⟨hx, hb, hml, hown, hts, hr, hlocks, hK, hA, -, hsx⟩ := id cx
  have hkn : 0 ≤ (rmL_trim).cells ∧ 0 ≤ (rmL_trim).slots := ⟨Nat.zero_le _, Nat.zero_le _⟩
  refine lv_aload_n hx hb dL_trim_0 rfl (lv_at hl 2 rfl) ?_
  refine lv_iconst (v := (0 : Int32)) hx hb dL_trim_1 (by decide) ?_
  refine lv_aload_n hx hb dL_trim_2 rfl (lv_at hl 0 rfl) ?_
  refine lv_iload_n hx hb dL_trim_3 rfl (lv_at hl 1 rfl) ?_
  rcases x_tr h with ⟨M1, r2, y4, h⟩ | ⟨M1, E3, y4, h⟩
  · refine r_xcallV (As := [.int c1]) (rest := [.int ((0 : Int32)), .ref a2]) cx w ⟨Nat.le_of_ble_eq_true rfl, Nat.le_of_ble_eq_true rfl⟩ hl.1 (kt_X9_trim hG hst hL0 hK0 y4) (cwV 1 hts gL_trim_X9_trim rfl rfl rfl (by decide +kernel) ⟨Nat.le_of_ble_eq_true rfl, Nat.le_of_ble_eq_true rfl⟩) hL0 hK0 (by decide) rfl rfl rfl (Nat.le_of_ble_eq_true rfl) dL_trim_4 (fun E ce q H1 locs1 e => by cases e) (fun r1 H locs e w => ?_)
    cases e
    refine lv_i2l (v := (Int32.toInt64 r2)) hx hb dL_trim_7 rfl ?_
    obtain ⟨z5, h⟩ := x_ix h
    obtain ⟨M6, eM6, h⟩ := x_wJ h
    refine r_last cx w hL2 hK2 z5 dL_trim_8 eM6 (fun H locs w => ?_)
    refine lv_goto (tgt := 15) hx hb dL_trim_9 (by decide) ?_
    refine lv_iconst (v := (0 : Int32)) hx hb dL_trim_15 (by decide) ?_
    exact r_iret cx w h dL_trim_16
  · refine r_xcallV (As := [.int c1]) (rest := [.int ((0 : Int32)), .ref a2]) cx w ⟨Nat.le_of_ble_eq_true rfl, Nat.le_of_ble_eq_true rfl⟩ hl.1 (kt_X9_trim hG hst hL0 hK0 y4) (cwV 1 hts gL_trim_X9_trim rfl rfl rfl (by decide +kernel) ⟨Nat.le_of_ble_eq_true rfl, Nat.le_of_ble_eq_true rfl⟩) hL0 hK0 (by decide) rfl rfl rfl (Nat.le_of_ble_eq_true rfl) dL_trim_4 (fun E ce q H locs e w h1 h2 h3 => ?_) (fun r1 H locs e => by cases e)
    cases e
    rcases Decidable.em (E3 = "java/lang/IllegalArgumentException") with k7 | k7
    · have h := x_t h k7
      subst k7
      refine r_catch1 cx ht (by decide) (by decide) (List.mem_of_getElem? (i := 1) rfl) (List.mem_of_getElem? (i := 0) rfl) h1 h2 h3 ?_
      refine lv_astore_n (lv' := [(3, .ref q), (0, .ref a0), (1, .int c1), (2, .ref a2)]) hx hb dL_trim_12 rfl hl (by decide) rfl (fun ls hl => ?_)
      refine lv_iconst (v := (1 : Int32)) hx hb dL_trim_13 (by decide) ?_
      exact r_iret cx w h dL_trim_14
    · have h := x_f h k7
      exact nn h
-- L_count
abbrev rmL_count : Room := { frames := 7, cells := 1, slots := 6, locals := 141 }
def m_L_count (G : gS) (M : mS) (a0 : Nat) (c1 : Int32) (a2 : Nat) : Option (mS × Int32) := o_tr (t_X9_count G M a0 c1) (fun M1 r2 => o_ix (0 : Int32) (gN G a2) (o_wJ M1 a2 (Int32.toNatClampNeg (0 : Int32)) (Int32.toInt64 r2) (fun M6 => some (M6, (0 : Int32))))) (fun M1 E3 => if E3 = "java/lang/IndexOutOfBoundsException" then some (M1, (1 : Int32)) else none)
set_option maxHeartbeats 4000000 in
set_option maxRecDepth 100000 in
theorem k_L_count {l : Launch} {D : va_G} {cy : cyS} {G : gS} {M M' : mS} {r : Int32} {a0 : Nat} {c1 : Int32} {a2 : Nat} (hG : wt G) (hst : l.stackTraces = false) (hL0 : a0 ∈ gL G) (hK0 : gK G a0 = 8) (hL2 : a2 ∈ gL G) (hK2 : gK G a2 = 13) (h : m_L_count G M a0 c1 a2 = some (M', r)) : ctW l yL_count wsL_count rmL_count D cy G M [.ref a0, .int c1, .ref a2] M' r := by
  unfold m_L_count at h
  refine ctW_of (cc := cL_count) (nL := 4) (ret := (some .int)) (lv := [(0, .ref a0), (1, .int c1), (2, .ref a2)]) hG (by decide) rfl (Nat.le_of_ble_eq_true rfl) rfl ?_
  intro p e s m args below meth c A ls cx ht w hl
  obtain ⟨hx, hb, hml, hown, hts, hr, hlocks, hK, hA, -, hsx⟩ := id cx
  have hkn : 0 ≤ (rmL_count).cells ∧ 0 ≤ (rmL_count).slots := ⟨Nat.zero_le _, Nat.zero_le _⟩
  refine lv_aload_n hx hb dL_count_0 rfl (lv_at hl 2 rfl) ?_
  refine lv_iconst (v := (0 : Int32)) hx hb dL_count_1 (by decide) ?_
  refine lv_aload_n hx hb dL_count_2 rfl (lv_at hl 0 rfl) ?_
  refine lv_iload_n hx hb dL_count_3 rfl (lv_at hl 1 rfl) ?_
  rcases x_tr h with ⟨M1, r2, y4, h⟩ | ⟨M1, E3, y4, h⟩
  · refine r_xcallV (As := [.int c1]) (rest := [.int ((0 : Int32)), .ref a2]) cx w ⟨Nat.le_of_ble_eq_true rfl, Nat.le_of_ble_eq_true rfl⟩ hl.1 (kt_X9_count hG hst hL0 hK0 y4) (cwV 1 hts gL_count_X9_count rfl rfl rfl (by decide +kernel) ⟨Nat.le_of_ble_eq_true rfl, Nat.le_of_ble_eq_true rfl⟩) hL0 hK0 (by decide) rfl rfl rfl (Nat.le_of_ble_eq_true rfl) dL_count_4 (fun E ce q H1 locs1 e => by cases e) (fun r1 H locs e w => ?_)
    cases e
    refine lv_i2l (v := (Int32.toInt64 r2)) hx hb dL_count_7 rfl ?_
    obtain ⟨z5, h⟩ := x_ix h
    obtain ⟨M6, eM6, h⟩ := x_wJ h
    refine r_last cx w hL2 hK2 z5 dL_count_8 eM6 (fun H locs w => ?_)
    refine lv_goto (tgt := 15) hx hb dL_count_9 (by decide) ?_
    refine lv_iconst (v := (0 : Int32)) hx hb dL_count_15 (by decide) ?_
    exact r_iret cx w h dL_count_16
  · refine r_xcallV (As := [.int c1]) (rest := [.int ((0 : Int32)), .ref a2]) cx w ⟨Nat.le_of_ble_eq_true rfl, Nat.le_of_ble_eq_true rfl⟩ hl.1 (kt_X9_count hG hst hL0 hK0 y4) (cwV 1 hts gL_count_X9_count rfl rfl rfl (by decide +kernel) ⟨Nat.le_of_ble_eq_true rfl, Nat.le_of_ble_eq_true rfl⟩) hL0 hK0 (by decide) rfl rfl rfl (Nat.le_of_ble_eq_true rfl) dL_count_4 (fun E ce q H locs e w h1 h2 h3 => ?_) (fun r1 H locs e => by cases e)
    cases e
    rcases Decidable.em (E3 = "java/lang/IndexOutOfBoundsException") with k7 | k7
    · have h := x_t h k7
      subst k7
      refine r_catch1 cx ht (by decide) (by decide) (List.mem_of_getElem? (i := 1) rfl) (List.mem_of_getElem? (i := 2) rfl) h1 h2 h3 ?_
      refine lv_astore_n (lv' := [(3, .ref q), (0, .ref a0), (1, .int c1), (2, .ref a2)]) hx hb dL_count_12 rfl hl (by decide) rfl (fun ls hl => ?_)
      refine lv_iconst (v := (1 : Int32)) hx hb dL_count_13 (by decide) ?_
      exact r_iret cx w h dL_count_14
    · have h := x_f h k7
      exact nn h
-- L_stone
abbrev rmL_stone : Room := { frames := 7, cells := 1, slots := 6, locals := 142 }
def m_L_stone (G : gS) (M : mS) (a0 : Nat) (c1 : Int32) (c2 : Int32) (a3 : Nat) : Option (mS × Int32) := o_tr (t_X9_stone G M a0 c1 c2) (fun M1 r2 => o_ix (0 : Int32) (gN G a3) (o_wJ M1 a3 (Int32.toNatClampNeg (0 : Int32)) (Int32.toInt64 r2) (fun M6 => some (M6, (0 : Int32))))) (fun M1 E3 => if E3 = "java/lang/IndexOutOfBoundsException" then some (M1, (1 : Int32)) else none)
set_option maxHeartbeats 4000000 in
set_option maxRecDepth 100000 in
theorem k_L_stone {l : Launch} {D : va_G} {cy : cyS} {G : gS} {M M' : mS} {r : Int32} {a0 : Nat} {c1 : Int32} {c2 : Int32} {a3 : Nat} (hG : wt G) (hst : l.stackTraces = false) (hL0 : a0 ∈ gL G) (hK0 : gK G a0 = 8) (hL3 : a3 ∈ gL G) (hK3 : gK G a3 = 13) (h : m_L_stone G M a0 c1 c2 a3 = some (M', r)) : ctW l yL_stone wsL_stone rmL_stone D cy G M [.ref a0, .int c1, .int c2, .ref a3] M' r := by
  unfold m_L_stone at h
  refine ctW_of (cc := cL_stone) (nL := 5) (ret := (some .int)) (lv := [(0, .ref a0), (1, .int c1), (2, .int c2), (3, .ref a3)]) hG (by decide) rfl (Nat.le_of_ble_eq_true rfl) rfl ?_
  intro p e s m args below meth c A ls cx ht w hl
  obtain ⟨hx, hb, hml, hown, hts, hr, hlocks, hK, hA, -, hsx⟩ := id cx
  have hkn : 0 ≤ (rmL_stone).cells ∧ 0 ≤ (rmL_stone).slots := ⟨Nat.zero_le _, Nat.zero_le _⟩
  refine lv_aload_n hx hb dL_stone_0 rfl (lv_at hl 3 rfl) ?_
  refine lv_iconst (v := (0 : Int32)) hx hb dL_stone_1 (by decide) ?_
  refine lv_aload_n hx hb dL_stone_2 rfl (lv_at hl 0 rfl) ?_
  refine lv_iload_n hx hb dL_stone_3 rfl (lv_at hl 1 rfl) ?_
  refine lv_iload_n hx hb dL_stone_4 rfl (lv_at hl 2 rfl) ?_
  rcases x_tr h with ⟨M1, r2, y4, h⟩ | ⟨M1, E3, y4, h⟩
  · refine r_xcallV (As := [.int c1, .int c2]) (rest := [.int ((0 : Int32)), .ref a3]) cx w ⟨Nat.le_of_ble_eq_true rfl, Nat.le_of_ble_eq_true rfl⟩ hl.1 (kt_X9_stone hG hst hL0 hK0 y4) (cwV 2 hts gL_stone_X9_stone rfl rfl rfl (by decide +kernel) ⟨Nat.le_of_ble_eq_true rfl, Nat.le_of_ble_eq_true rfl⟩) hL0 hK0 (by decide) rfl rfl rfl (Nat.le_of_ble_eq_true rfl) dL_stone_5 (fun E ce q H1 locs1 e => by cases e) (fun r1 H locs e w => ?_)
    cases e
    refine lv_i2l (v := (Int32.toInt64 r2)) hx hb dL_stone_8 rfl ?_
    obtain ⟨z5, h⟩ := x_ix h
    obtain ⟨M6, eM6, h⟩ := x_wJ h
    refine r_last cx w hL3 hK3 z5 dL_stone_9 eM6 (fun H locs w => ?_)
    refine lv_goto (tgt := 17) hx hb dL_stone_10 (by decide) ?_
    refine lv_iconst (v := (0 : Int32)) hx hb dL_stone_17 (by decide) ?_
    exact r_iret cx w h dL_stone_18
  · refine r_xcallV (As := [.int c1, .int c2]) (rest := [.int ((0 : Int32)), .ref a3]) cx w ⟨Nat.le_of_ble_eq_true rfl, Nat.le_of_ble_eq_true rfl⟩ hl.1 (kt_X9_stone hG hst hL0 hK0 y4) (cwV 2 hts gL_stone_X9_stone rfl rfl rfl (by decide +kernel) ⟨Nat.le_of_ble_eq_true rfl, Nat.le_of_ble_eq_true rfl⟩) hL0 hK0 (by decide) rfl rfl rfl (Nat.le_of_ble_eq_true rfl) dL_stone_5 (fun E ce q H locs e w h1 h2 h3 => ?_) (fun r1 H locs e => by cases e)
    cases e
    rcases Decidable.em (E3 = "java/lang/IndexOutOfBoundsException") with k7 | k7
    · have h := x_t h k7
      subst k7
      refine r_catch1 cx ht (by decide) (by decide) (List.mem_of_getElem? (i := 1) rfl) (List.mem_of_getElem? (i := 2) rfl) h1 h2 h3 ?_
      refine lv_astore (lv' := [(4, .ref q), (0, .ref a0), (1, .int c1), (2, .int c2), (3, .ref a3)]) hx hb dL_stone_13 hl (by decide) rfl (fun ls hl => ?_)
      refine lv_iconst (v := (1 : Int32)) hx hb dL_stone_15 (by decide) ?_
      exact r_iret cx w h dL_stone_16
    · have h := x_f h k7
      exact nn h
-- L_colour
abbrev rmL_colour : Room := { frames := 7, cells := 1, slots := 6, locals := 141 }
def m_L_colour (G : gS) (M : mS) (a0 : Nat) (c1 : Int32) (a2 : Nat) : Option (mS × Int32) := o_tr (t_X9_colour G M a0 c1) (fun M1 r2 => o_ix (0 : Int32) (gN G a2) (o_wJ M1 a2 (Int32.toNatClampNeg (0 : Int32)) (Int32.toInt64 r2) (fun M6 => some (M6, (0 : Int32))))) (fun M1 E3 => if E3 = "java/lang/IndexOutOfBoundsException" then some (M1, (1 : Int32)) else none)
set_option maxHeartbeats 4000000 in
set_option maxRecDepth 100000 in
theorem k_L_colour {l : Launch} {D : va_G} {cy : cyS} {G : gS} {M M' : mS} {r : Int32} {a0 : Nat} {c1 : Int32} {a2 : Nat} (hG : wt G) (hst : l.stackTraces = false) (hL0 : a0 ∈ gL G) (hK0 : gK G a0 = 8) (hL2 : a2 ∈ gL G) (hK2 : gK G a2 = 13) (h : m_L_colour G M a0 c1 a2 = some (M', r)) : ctW l yL_colour wsL_colour rmL_colour D cy G M [.ref a0, .int c1, .ref a2] M' r := by
  unfold m_L_colour at h
  refine ctW_of (cc := cL_colour) (nL := 4) (ret := (some .int)) (lv := [(0, .ref a0), (1, .int c1), (2, .ref a2)]) hG (by decide) rfl (Nat.le_of_ble_eq_true rfl) rfl ?_
  intro p e s m args below meth c A ls cx ht w hl
  obtain ⟨hx, hb, hml, hown, hts, hr, hlocks, hK, hA, -, hsx⟩ := id cx
  have hkn : 0 ≤ (rmL_colour).cells ∧ 0 ≤ (rmL_colour).slots := ⟨Nat.zero_le _, Nat.zero_le _⟩
  refine lv_aload_n hx hb dL_colour_0 rfl (lv_at hl 2 rfl) ?_
  refine lv_iconst (v := (0 : Int32)) hx hb dL_colour_1 (by decide) ?_
  refine lv_aload_n hx hb dL_colour_2 rfl (lv_at hl 0 rfl) ?_
  refine lv_iload_n hx hb dL_colour_3 rfl (lv_at hl 1 rfl) ?_
  rcases x_tr h with ⟨M1, r2, y4, h⟩ | ⟨M1, E3, y4, h⟩
  · refine r_xcallV (As := [.int c1]) (rest := [.int ((0 : Int32)), .ref a2]) cx w ⟨Nat.le_of_ble_eq_true rfl, Nat.le_of_ble_eq_true rfl⟩ hl.1 (kt_X9_colour hG hst hL0 hK0 y4) (cwV 1 hts gL_colour_X9_colour rfl rfl rfl (by decide +kernel) ⟨Nat.le_of_ble_eq_true rfl, Nat.le_of_ble_eq_true rfl⟩) hL0 hK0 (by decide) rfl rfl rfl (Nat.le_of_ble_eq_true rfl) dL_colour_4 (fun E ce q H1 locs1 e => by cases e) (fun r1 H locs e w => ?_)
    cases e
    refine lv_i2l (v := (Int32.toInt64 r2)) hx hb dL_colour_7 rfl ?_
    obtain ⟨z5, h⟩ := x_ix h
    obtain ⟨M6, eM6, h⟩ := x_wJ h
    refine r_last cx w hL2 hK2 z5 dL_colour_8 eM6 (fun H locs w => ?_)
    refine lv_goto (tgt := 15) hx hb dL_colour_9 (by decide) ?_
    refine lv_iconst (v := (0 : Int32)) hx hb dL_colour_15 (by decide) ?_
    exact r_iret cx w h dL_colour_16
  · refine r_xcallV (As := [.int c1]) (rest := [.int ((0 : Int32)), .ref a2]) cx w ⟨Nat.le_of_ble_eq_true rfl, Nat.le_of_ble_eq_true rfl⟩ hl.1 (kt_X9_colour hG hst hL0 hK0 y4) (cwV 1 hts gL_colour_X9_colour rfl rfl rfl (by decide +kernel) ⟨Nat.le_of_ble_eq_true rfl, Nat.le_of_ble_eq_true rfl⟩) hL0 hK0 (by decide) rfl rfl rfl (Nat.le_of_ble_eq_true rfl) dL_colour_4 (fun E ce q H locs e w h1 h2 h3 => ?_) (fun r1 H locs e => by cases e)
    cases e
    rcases Decidable.em (E3 = "java/lang/IndexOutOfBoundsException") with k7 | k7
    · have h := x_t h k7
      subst k7
      refine r_catch1 cx ht (by decide) (by decide) (List.mem_of_getElem? (i := 1) rfl) (List.mem_of_getElem? (i := 2) rfl) h1 h2 h3 ?_
      refine lv_astore_n (lv' := [(3, .ref q), (0, .ref a0), (1, .int c1), (2, .ref a2)]) hx hb dL_colour_12 rfl hl (by decide) rfl (fun ls hl => ?_)
      refine lv_iconst (v := (1 : Int32)) hx hb dL_colour_13 (by decide) ?_
      exact r_iret cx w h dL_colour_14
    · have h := x_f h k7
      exact nn h
-- L_row
abbrev rmL_row : Room := { frames := 7, cells := 1, slots := 6, locals := 141 }
def m_L_row (G : gS) (M : mS) (a0 : Nat) (c1 : Int32) (a2 : Nat) : Option (mS × Int32) := o_tr (t_X9_row G M a0 c1) (fun M1 r2 => o_ix (0 : Int32) (gN G a2) (o_wJ M1 a2 (Int32.toNatClampNeg (0 : Int32)) (Int32.toInt64 r2) (fun M6 => some (M6, (0 : Int32))))) (fun M1 E3 => if E3 = "java/lang/IndexOutOfBoundsException" then some (M1, (1 : Int32)) else none)
set_option maxHeartbeats 4000000 in
set_option maxRecDepth 100000 in
theorem k_L_row {l : Launch} {D : va_G} {cy : cyS} {G : gS} {M M' : mS} {r : Int32} {a0 : Nat} {c1 : Int32} {a2 : Nat} (hG : wt G) (hst : l.stackTraces = false) (hL0 : a0 ∈ gL G) (hK0 : gK G a0 = 8) (hL2 : a2 ∈ gL G) (hK2 : gK G a2 = 13) (h : m_L_row G M a0 c1 a2 = some (M', r)) : ctW l yL_row wsL_row rmL_row D cy G M [.ref a0, .int c1, .ref a2] M' r := by
  unfold m_L_row at h
  refine ctW_of (cc := cL_row) (nL := 4) (ret := (some .int)) (lv := [(0, .ref a0), (1, .int c1), (2, .ref a2)]) hG (by decide) rfl (Nat.le_of_ble_eq_true rfl) rfl ?_
  intro p e s m args below meth c A ls cx ht w hl
  obtain ⟨hx, hb, hml, hown, hts, hr, hlocks, hK, hA, -, hsx⟩ := id cx
  have hkn : 0 ≤ (rmL_row).cells ∧ 0 ≤ (rmL_row).slots := ⟨Nat.zero_le _, Nat.zero_le _⟩
  refine lv_aload_n hx hb dL_row_0 rfl (lv_at hl 2 rfl) ?_
  refine lv_iconst (v := (0 : Int32)) hx hb dL_row_1 (by decide) ?_
  refine lv_aload_n hx hb dL_row_2 rfl (lv_at hl 0 rfl) ?_
  refine lv_iload_n hx hb dL_row_3 rfl (lv_at hl 1 rfl) ?_
  rcases x_tr h with ⟨M1, r2, y4, h⟩ | ⟨M1, E3, y4, h⟩
  · refine r_xcallV (As := [.int c1]) (rest := [.int ((0 : Int32)), .ref a2]) cx w ⟨Nat.le_of_ble_eq_true rfl, Nat.le_of_ble_eq_true rfl⟩ hl.1 (kt_X9_row hG hst hL0 hK0 y4) (cwV 1 hts gL_row_X9_row rfl rfl rfl (by decide +kernel) ⟨Nat.le_of_ble_eq_true rfl, Nat.le_of_ble_eq_true rfl⟩) hL0 hK0 (by decide) rfl rfl rfl (Nat.le_of_ble_eq_true rfl) dL_row_4 (fun E ce q H1 locs1 e => by cases e) (fun r1 H locs e w => ?_)
    cases e
    refine lv_i2l (v := (Int32.toInt64 r2)) hx hb dL_row_7 rfl ?_
    obtain ⟨z5, h⟩ := x_ix h
    obtain ⟨M6, eM6, h⟩ := x_wJ h
    refine r_last cx w hL2 hK2 z5 dL_row_8 eM6 (fun H locs w => ?_)
    refine lv_goto (tgt := 15) hx hb dL_row_9 (by decide) ?_
    refine lv_iconst (v := (0 : Int32)) hx hb dL_row_15 (by decide) ?_
    exact r_iret cx w h dL_row_16
  · refine r_xcallV (As := [.int c1]) (rest := [.int ((0 : Int32)), .ref a2]) cx w ⟨Nat.le_of_ble_eq_true rfl, Nat.le_of_ble_eq_true rfl⟩ hl.1 (kt_X9_row hG hst hL0 hK0 y4) (cwV 1 hts gL_row_X9_row rfl rfl rfl (by decide +kernel) ⟨Nat.le_of_ble_eq_true rfl, Nat.le_of_ble_eq_true rfl⟩) hL0 hK0 (by decide) rfl rfl rfl (Nat.le_of_ble_eq_true rfl) dL_row_4 (fun E ce q H locs e w h1 h2 h3 => ?_) (fun r1 H locs e => by cases e)
    cases e
    rcases Decidable.em (E3 = "java/lang/IndexOutOfBoundsException") with k7 | k7
    · have h := x_t h k7
      subst k7
      refine r_catch1 cx ht (by decide) (by decide) (List.mem_of_getElem? (i := 1) rfl) (List.mem_of_getElem? (i := 2) rfl) h1 h2 h3 ?_
      refine lv_astore_n (lv' := [(3, .ref q), (0, .ref a0), (1, .int c1), (2, .ref a2)]) hx hb dL_row_12 rfl hl (by decide) rfl (fun ls hl => ?_)
      refine lv_iconst (v := (1 : Int32)) hx hb dL_row_13 (by decide) ?_
      exact r_iret cx w h dL_row_14
    · have h := x_f h k7
      exact nn h
-- L_turn
abbrev rmL_turn : Room := { frames := 7, cells := 1, slots := 6, locals := 142 }
def m_L_turn (G : gS) (M : mS) (a0 : Nat) (c1 : Int32) (c2 : Int32) (a3 : Nat) : Option (mS × Int32) := o_tr (t_X9_turn G M a0 c1 c2) (fun M1 r2 => o_ix (0 : Int32) (gN G a3) (o_wJ M1 a3 (Int32.toNatClampNeg (0 : Int32)) (Int32.toInt64 r2) (fun M6 => some (M6, (0 : Int32))))) (fun M1 E3 => if E3 = "java/lang/IndexOutOfBoundsException" then some (M1, (1 : Int32)) else none)
set_option maxHeartbeats 4000000 in
set_option maxRecDepth 100000 in
theorem k_L_turn {l : Launch} {D : va_G} {cy : cyS} {G : gS} {M M' : mS} {r : Int32} {a0 : Nat} {c1 : Int32} {c2 : Int32} {a3 : Nat} (hG : wt G) (hst : l.stackTraces = false) (hL0 : a0 ∈ gL G) (hK0 : gK G a0 = 8) (hL3 : a3 ∈ gL G) (hK3 : gK G a3 = 13) (h : m_L_turn G M a0 c1 c2 a3 = some (M', r)) : ctW l yL_turn wsL_turn rmL_turn D cy G M [.ref a0, .int c1, .int c2, .ref a3] M' r := by
  unfold m_L_turn at h
  refine ctW_of (cc := cL_turn) (nL := 5) (ret := (some .int)) (lv := [(0, .ref a0), (1, .int c1), (2, .int c2), (3, .ref a3)]) hG (by decide) rfl (Nat.le_of_ble_eq_true rfl) rfl ?_
  intro p e s m args below meth c A ls cx ht w hl
  obtain ⟨hx, hb, hml, hown, hts, hr, hlocks, hK, hA, -, hsx⟩ := id cx
  have hkn : 0 ≤ (rmL_turn).cells ∧ 0 ≤ (rmL_turn).slots := ⟨Nat.zero_le _, Nat.zero_le _⟩
  refine lv_aload_n hx hb dL_turn_0 rfl (lv_at hl 3 rfl) ?_
  refine lv_iconst (v := (0 : Int32)) hx hb dL_turn_1 (by decide) ?_
  refine lv_aload_n hx hb dL_turn_2 rfl (lv_at hl 0 rfl) ?_
  refine lv_iload_n hx hb dL_turn_3 rfl (lv_at hl 1 rfl) ?_
  refine lv_iload_n hx hb dL_turn_4 rfl (lv_at hl 2 rfl) ?_
  rcases x_tr h with ⟨M1, r2, y4, h⟩ | ⟨M1, E3, y4, h⟩
  · refine r_xcallV (As := [.int c1, .int c2]) (rest := [.int ((0 : Int32)), .ref a3]) cx w ⟨Nat.le_of_ble_eq_true rfl, Nat.le_of_ble_eq_true rfl⟩ hl.1 (kt_X9_turn hG hst hL0 hK0 y4) (cwV 2 hts gL_turn_X9_turn rfl rfl rfl (by decide +kernel) ⟨Nat.le_of_ble_eq_true rfl, Nat.le_of_ble_eq_true rfl⟩) hL0 hK0 (by decide) rfl rfl rfl (Nat.le_of_ble_eq_true rfl) dL_turn_5 (fun E ce q H1 locs1 e => by cases e) (fun r1 H locs e w => ?_)
    cases e
    refine lv_i2l (v := (Int32.toInt64 r2)) hx hb dL_turn_8 rfl ?_
    obtain ⟨z5, h⟩ := x_ix h
    obtain ⟨M6, eM6, h⟩ := x_wJ h
    refine r_last cx w hL3 hK3 z5 dL_turn_9 eM6 (fun H locs w => ?_)
    refine lv_goto (tgt := 17) hx hb dL_turn_10 (by decide) ?_
    refine lv_iconst (v := (0 : Int32)) hx hb dL_turn_17 (by decide) ?_
    exact r_iret cx w h dL_turn_18
  · refine r_xcallV (As := [.int c1, .int c2]) (rest := [.int ((0 : Int32)), .ref a3]) cx w ⟨Nat.le_of_ble_eq_true rfl, Nat.le_of_ble_eq_true rfl⟩ hl.1 (kt_X9_turn hG hst hL0 hK0 y4) (cwV 2 hts gL_turn_X9_turn rfl rfl rfl (by decide +kernel) ⟨Nat.le_of_ble_eq_true rfl, Nat.le_of_ble_eq_true rfl⟩) hL0 hK0 (by decide) rfl rfl rfl (Nat.le_of_ble_eq_true rfl) dL_turn_5 (fun E ce q H locs e w h1 h2 h3 => ?_) (fun r1 H locs e => by cases e)
    cases e
    rcases Decidable.em (E3 = "java/lang/IndexOutOfBoundsException") with k7 | k7
    · have h := x_t h k7
      subst k7
      refine r_catch1 cx ht (by decide) (by decide) (List.mem_of_getElem? (i := 1) rfl) (List.mem_of_getElem? (i := 2) rfl) h1 h2 h3 ?_
      refine lv_astore (lv' := [(4, .ref q), (0, .ref a0), (1, .int c1), (2, .int c2), (3, .ref a3)]) hx hb dL_turn_13 hl (by decide) rfl (fun ls hl => ?_)
      refine lv_iconst (v := (1 : Int32)) hx hb dL_turn_15 (by decide) ?_
      exact r_iret cx w h dL_turn_16
    · have h := x_f h k7
      exact nn h
-- L_ant
abbrev rmL_ant : Room := { frames := 7, cells := 1, slots := 6, locals := 142 }
def m_L_ant (G : gS) (M : mS) (a0 : Nat) (c1 : Int32) (c2 : Int32) (a3 : Nat) : Option (mS × Int32) := o_tr (t_X9_ant G M a0 c1 c2) (fun M1 r2 => o_ix (0 : Int32) (gN G a3) (o_wJ M1 a3 (Int32.toNatClampNeg (0 : Int32)) (Int32.toInt64 r2) (fun M6 => some (M6, (0 : Int32))))) (fun M1 E3 => if E3 = "java/lang/IndexOutOfBoundsException" then some (M1, (1 : Int32)) else none)
set_option maxHeartbeats 4000000 in
set_option maxRecDepth 100000 in
theorem k_L_ant {l : Launch} {D : va_G} {cy : cyS} {G : gS} {M M' : mS} {r : Int32} {a0 : Nat} {c1 : Int32} {c2 : Int32} {a3 : Nat} (hG : wt G) (hst : l.stackTraces = false) (hL0 : a0 ∈ gL G) (hK0 : gK G a0 = 8) (hL3 : a3 ∈ gL G) (hK3 : gK G a3 = 13) (h : m_L_ant G M a0 c1 c2 a3 = some (M', r)) : ctW l yL_ant wsL_ant rmL_ant D cy G M [.ref a0, .int c1, .int c2, .ref a3] M' r := by
  unfold m_L_ant at h
  refine ctW_of (cc := cL_ant) (nL := 5) (ret := (some .int)) (lv := [(0, .ref a0), (1, .int c1), (2, .int c2), (3, .ref a3)]) hG (by decide) rfl (Nat.le_of_ble_eq_true rfl) rfl ?_
  intro p e s m args below meth c A ls cx ht w hl
  obtain ⟨hx, hb, hml, hown, hts, hr, hlocks, hK, hA, -, hsx⟩ := id cx
  have hkn : 0 ≤ (rmL_ant).cells ∧ 0 ≤ (rmL_ant).slots := ⟨Nat.zero_le _, Nat.zero_le _⟩
  refine lv_aload_n hx hb dL_ant_0 rfl (lv_at hl 3 rfl) ?_
  refine lv_iconst (v := (0 : Int32)) hx hb dL_ant_1 (by decide) ?_
  refine lv_aload_n hx hb dL_ant_2 rfl (lv_at hl 0 rfl) ?_
  refine lv_iload_n hx hb dL_ant_3 rfl (lv_at hl 1 rfl) ?_
  refine lv_iload_n hx hb dL_ant_4 rfl (lv_at hl 2 rfl) ?_
  rcases x_tr h with ⟨M1, r2, y4, h⟩ | ⟨M1, E3, y4, h⟩
  · refine r_xcallV (As := [.int c1, .int c2]) (rest := [.int ((0 : Int32)), .ref a3]) cx w ⟨Nat.le_of_ble_eq_true rfl, Nat.le_of_ble_eq_true rfl⟩ hl.1 (kt_X9_ant hG hst hL0 hK0 y4) (cwV 2 hts gL_ant_X9_ant rfl rfl rfl (by decide +kernel) ⟨Nat.le_of_ble_eq_true rfl, Nat.le_of_ble_eq_true rfl⟩) hL0 hK0 (by decide) rfl rfl rfl (Nat.le_of_ble_eq_true rfl) dL_ant_5 (fun E ce q H1 locs1 e => by cases e) (fun r1 H locs e w => ?_)
    cases e
    refine lv_i2l (v := (Int32.toInt64 r2)) hx hb dL_ant_8 rfl ?_
    obtain ⟨z5, h⟩ := x_ix h
    obtain ⟨M6, eM6, h⟩ := x_wJ h
    refine r_last cx w hL3 hK3 z5 dL_ant_9 eM6 (fun H locs w => ?_)
    refine lv_goto (tgt := 17) hx hb dL_ant_10 (by decide) ?_
    refine lv_iconst (v := (0 : Int32)) hx hb dL_ant_17 (by decide) ?_
    exact r_iret cx w h dL_ant_18
  · refine r_xcallV (As := [.int c1, .int c2]) (rest := [.int ((0 : Int32)), .ref a3]) cx w ⟨Nat.le_of_ble_eq_true rfl, Nat.le_of_ble_eq_true rfl⟩ hl.1 (kt_X9_ant hG hst hL0 hK0 y4) (cwV 2 hts gL_ant_X9_ant rfl rfl rfl (by decide +kernel) ⟨Nat.le_of_ble_eq_true rfl, Nat.le_of_ble_eq_true rfl⟩) hL0 hK0 (by decide) rfl rfl rfl (Nat.le_of_ble_eq_true rfl) dL_ant_5 (fun E ce q H locs e w h1 h2 h3 => ?_) (fun r1 H locs e => by cases e)
    cases e
    rcases Decidable.em (E3 = "java/lang/IndexOutOfBoundsException") with k7 | k7
    · have h := x_t h k7
      subst k7
      refine r_catch1 cx ht (by decide) (by decide) (List.mem_of_getElem? (i := 1) rfl) (List.mem_of_getElem? (i := 2) rfl) h1 h2 h3 ?_
      refine lv_astore (lv' := [(4, .ref q), (0, .ref a0), (1, .int c1), (2, .int c2), (3, .ref a3)]) hx hb dL_ant_13 hl (by decide) rfl (fun ls hl => ?_)
      refine lv_iconst (v := (1 : Int32)) hx hb dL_ant_15 (by decide) ?_
      exact r_iret cx w h dL_ant_16
    · have h := x_f h k7
      exact nn h
-- L_paint
abbrev rmL_paint : Room := { frames := 7, cells := 1, slots := 6, locals := 145 }
def m_L_paint (G : gS) (M : mS) (a0 : Nat) (c1 : Int32) (c2 : Int32) (c3 : Int32) (a4 : Nat) : Option (mS × Int32) := o_tr (t_X9_paint G M a0 c1 c2 c3) (fun M1 r2 => o_ix (0 : Int32) (gN G a4) (o_wJ M1 a4 (Int32.toNatClampNeg (0 : Int32)) (Int32.toInt64 r2) (fun M6 => some (M6, (0 : Int32))))) (fun M1 E3 => if E3 = "java/lang/IndexOutOfBoundsException" then some (M1, (1 : Int32)) else if E3 = "java/lang/IllegalArgumentException" then some (M1, (2 : Int32)) else none)
set_option maxHeartbeats 4000000 in
set_option maxRecDepth 100000 in
theorem k_L_paint {l : Launch} {D : va_G} {cy : cyS} {G : gS} {M M' : mS} {r : Int32} {a0 : Nat} {c1 : Int32} {c2 : Int32} {c3 : Int32} {a4 : Nat} (hG : wt G) (hst : l.stackTraces = false) (hL0 : a0 ∈ gL G) (hK0 : gK G a0 = 8) (hL4 : a4 ∈ gL G) (hK4 : gK G a4 = 13) (h : m_L_paint G M a0 c1 c2 c3 a4 = some (M', r)) : ctW l yL_paint wsL_paint rmL_paint D cy G M [.ref a0, .int c1, .int c2, .int c3, .ref a4] M' r := by
  unfold m_L_paint at h
  refine ctW_of (cc := cL_paint) (nL := 6) (ret := (some .int)) (lv := [(0, .ref a0), (1, .int c1), (2, .int c2), (3, .int c3), (4, .ref a4)]) hG (by decide) rfl (Nat.le_of_ble_eq_true rfl) rfl ?_
  intro p e s m args below meth c A ls cx ht w hl
  obtain ⟨hx, hb, hml, hown, hts, hr, hlocks, hK, hA, -, hsx⟩ := id cx
  have hkn : 0 ≤ (rmL_paint).cells ∧ 0 ≤ (rmL_paint).slots := ⟨Nat.zero_le _, Nat.zero_le _⟩
  refine lv_aload hx hb dL_paint_0 (lv_at hl 4 rfl) ?_
  refine lv_iconst (v := (0 : Int32)) hx hb dL_paint_2 (by decide) ?_
  refine lv_aload_n hx hb dL_paint_3 rfl (lv_at hl 0 rfl) ?_
  refine lv_iload_n hx hb dL_paint_4 rfl (lv_at hl 1 rfl) ?_
  refine lv_iload_n hx hb dL_paint_5 rfl (lv_at hl 2 rfl) ?_
  refine lv_iload_n hx hb dL_paint_6 rfl (lv_at hl 3 rfl) ?_
  rcases x_tr h with ⟨M1, r2, y4, h⟩ | ⟨M1, E3, y4, h⟩
  · refine r_xcallV (As := [.int c1, .int c2, .int c3]) (rest := [.int ((0 : Int32)), .ref a4]) cx w ⟨Nat.le_of_ble_eq_true rfl, Nat.le_of_ble_eq_true rfl⟩ hl.1 (kt_X9_paint hG hst hL0 hK0 y4) (cwV 3 hts gL_paint_X9_paint rfl rfl rfl (by decide +kernel) ⟨Nat.le_of_ble_eq_true rfl, Nat.le_of_ble_eq_true rfl⟩) hL0 hK0 (by decide) rfl rfl rfl (Nat.le_of_ble_eq_true rfl) dL_paint_7 (fun E ce q H1 locs1 e => by cases e) (fun r1 H locs e w => ?_)
    cases e
    refine lv_i2l (v := (Int32.toInt64 r2)) hx hb dL_paint_10 rfl ?_
    obtain ⟨z5, h⟩ := x_ix h
    obtain ⟨M6, eM6, h⟩ := x_wJ h
    refine r_last cx w hL4 hK4 z5 dL_paint_11 eM6 (fun H locs w => ?_)
    refine lv_goto (tgt := 23) hx hb dL_paint_12 (by decide) ?_
    refine lv_iconst (v := (0 : Int32)) hx hb dL_paint_23 (by decide) ?_
    exact r_iret cx w h dL_paint_24
  · refine r_xcallV (As := [.int c1, .int c2, .int c3]) (rest := [.int ((0 : Int32)), .ref a4]) cx w ⟨Nat.le_of_ble_eq_true rfl, Nat.le_of_ble_eq_true rfl⟩ hl.1 (kt_X9_paint hG hst hL0 hK0 y4) (cwV 3 hts gL_paint_X9_paint rfl rfl rfl (by decide +kernel) ⟨Nat.le_of_ble_eq_true rfl, Nat.le_of_ble_eq_true rfl⟩) hL0 hK0 (by decide) rfl rfl rfl (Nat.le_of_ble_eq_true rfl) dL_paint_7 (fun E ce q H locs e w h1 h2 h3 => ?_) (fun r1 H locs e => by cases e)
    cases e
    rcases Decidable.em (E3 = "java/lang/IndexOutOfBoundsException") with k7 | k7
    · have h := x_t h k7
      subst k7
      refine r_catch1 cx ht (by decide) (by decide) (List.mem_of_getElem? (i := 1) rfl) (List.mem_of_getElem? (i := 2) rfl) h1 h2 h3 ?_
      refine lv_astore (lv' := [(5, .ref q), (0, .ref a0), (1, .int c1), (2, .int c2), (3, .int c3), (4, .ref a4)]) hx hb dL_paint_15 hl (by decide) rfl (fun ls hl => ?_)
      refine lv_iconst (v := (1 : Int32)) hx hb dL_paint_17 (by decide) ?_
      exact r_iret cx w h dL_paint_18
    · have h := x_f h k7
      rcases Decidable.em (E3 = "java/lang/IllegalArgumentException") with k8 | k8
      · have h := x_t h k8
        subst k8
        refine r_catch2 cx ht (by decide) (by decide) (by decide) (List.mem_of_getElem? (i := 2) rfl) (List.mem_of_getElem? (i := 1) rfl) (List.mem_of_getElem? (i := 0) rfl) (List.mem_of_getElem? (i := 0) rfl) h1 h2 h3 ?_
        refine lv_astore (lv' := [(5, .ref q), (0, .ref a0), (1, .int c1), (2, .int c2), (3, .int c3), (4, .ref a4)]) hx hb dL_paint_19 hl (by decide) rfl (fun ls hl => ?_)
        refine lv_iconst (v := (2 : Int32)) hx hb dL_paint_21 (by decide) ?_
        exact r_iret cx w h dL_paint_22
      · have h := x_f h k8
        exact nn h
-- L_wash
abbrev rmL_wash : Room := { frames := 7, cells := 1, slots := 6, locals := 142 }
def m_L_wash (G : gS) (M : mS) (a0 : Nat) (c1 : Int32) (c2 : Int32) (a3 : Nat) : Option (mS × Int32) := o_tr (t_X9_wash G M a0 c1 c2) (fun M1 r2 => o_ix (0 : Int32) (gN G a3) (o_wJ M1 a3 (Int32.toNatClampNeg (0 : Int32)) (Int32.toInt64 r2) (fun M6 => some (M6, (0 : Int32))))) (fun M1 E3 => if E3 = "java/lang/IndexOutOfBoundsException" then some (M1, (1 : Int32)) else if E3 = "java/lang/IllegalArgumentException" then some (M1, (2 : Int32)) else none)
set_option maxHeartbeats 4000000 in
set_option maxRecDepth 100000 in
theorem k_L_wash {l : Launch} {D : va_G} {cy : cyS} {G : gS} {M M' : mS} {r : Int32} {a0 : Nat} {c1 : Int32} {c2 : Int32} {a3 : Nat} (hG : wt G) (hst : l.stackTraces = false) (hL0 : a0 ∈ gL G) (hK0 : gK G a0 = 8) (hL3 : a3 ∈ gL G) (hK3 : gK G a3 = 13) (h : m_L_wash G M a0 c1 c2 a3 = some (M', r)) : ctW l yL_wash wsL_wash rmL_wash D cy G M [.ref a0, .int c1, .int c2, .ref a3] M' r := by
  unfold m_L_wash at h
  refine ctW_of (cc := cL_wash) (nL := 5) (ret := (some .int)) (lv := [(0, .ref a0), (1, .int c1), (2, .int c2), (3, .ref a3)]) hG (by decide) rfl (Nat.le_of_ble_eq_true rfl) rfl ?_
  intro p e s m args below meth c A ls cx ht w hl
  obtain ⟨hx, hb, hml, hown, hts, hr, hlocks, hK, hA, -, hsx⟩ := id cx
  have hkn : 0 ≤ (rmL_wash).cells ∧ 0 ≤ (rmL_wash).slots := ⟨Nat.zero_le _, Nat.zero_le _⟩
  refine lv_aload_n hx hb dL_wash_0 rfl (lv_at hl 3 rfl) ?_
  refine lv_iconst (v := (0 : Int32)) hx hb dL_wash_1 (by decide) ?_
  refine lv_aload_n hx hb dL_wash_2 rfl (lv_at hl 0 rfl) ?_
  refine lv_iload_n hx hb dL_wash_3 rfl (lv_at hl 1 rfl) ?_
  refine lv_iload_n hx hb dL_wash_4 rfl (lv_at hl 2 rfl) ?_
  rcases x_tr h with ⟨M1, r2, y4, h⟩ | ⟨M1, E3, y4, h⟩
  · refine r_xcallV (As := [.int c1, .int c2]) (rest := [.int ((0 : Int32)), .ref a3]) cx w ⟨Nat.le_of_ble_eq_true rfl, Nat.le_of_ble_eq_true rfl⟩ hl.1 (kt_X9_wash hG hst hL0 hK0 y4) (cwV 2 hts gL_wash_X9_wash rfl rfl rfl (by decide +kernel) ⟨Nat.le_of_ble_eq_true rfl, Nat.le_of_ble_eq_true rfl⟩) hL0 hK0 (by decide) rfl rfl rfl (Nat.le_of_ble_eq_true rfl) dL_wash_5 (fun E ce q H1 locs1 e => by cases e) (fun r1 H locs e w => ?_)
    cases e
    refine lv_i2l (v := (Int32.toInt64 r2)) hx hb dL_wash_8 rfl ?_
    obtain ⟨z5, h⟩ := x_ix h
    obtain ⟨M6, eM6, h⟩ := x_wJ h
    refine r_last cx w hL3 hK3 z5 dL_wash_9 eM6 (fun H locs w => ?_)
    refine lv_goto (tgt := 21) hx hb dL_wash_10 (by decide) ?_
    refine lv_iconst (v := (0 : Int32)) hx hb dL_wash_21 (by decide) ?_
    exact r_iret cx w h dL_wash_22
  · refine r_xcallV (As := [.int c1, .int c2]) (rest := [.int ((0 : Int32)), .ref a3]) cx w ⟨Nat.le_of_ble_eq_true rfl, Nat.le_of_ble_eq_true rfl⟩ hl.1 (kt_X9_wash hG hst hL0 hK0 y4) (cwV 2 hts gL_wash_X9_wash rfl rfl rfl (by decide +kernel) ⟨Nat.le_of_ble_eq_true rfl, Nat.le_of_ble_eq_true rfl⟩) hL0 hK0 (by decide) rfl rfl rfl (Nat.le_of_ble_eq_true rfl) dL_wash_5 (fun E ce q H locs e w h1 h2 h3 => ?_) (fun r1 H locs e => by cases e)
    cases e
    rcases Decidable.em (E3 = "java/lang/IndexOutOfBoundsException") with k7 | k7
    · have h := x_t h k7
      subst k7
      refine r_catch1 cx ht (by decide) (by decide) (List.mem_of_getElem? (i := 1) rfl) (List.mem_of_getElem? (i := 2) rfl) h1 h2 h3 ?_
      refine lv_astore (lv' := [(4, .ref q), (0, .ref a0), (1, .int c1), (2, .int c2), (3, .ref a3)]) hx hb dL_wash_13 hl (by decide) rfl (fun ls hl => ?_)
      refine lv_iconst (v := (1 : Int32)) hx hb dL_wash_15 (by decide) ?_
      exact r_iret cx w h dL_wash_16
    · have h := x_f h k7
      rcases Decidable.em (E3 = "java/lang/IllegalArgumentException") with k8 | k8
      · have h := x_t h k8
        subst k8
        refine r_catch2 cx ht (by decide) (by decide) (by decide) (List.mem_of_getElem? (i := 2) rfl) (List.mem_of_getElem? (i := 1) rfl) (List.mem_of_getElem? (i := 0) rfl) (List.mem_of_getElem? (i := 0) rfl) h1 h2 h3 ?_
        refine lv_astore (lv' := [(4, .ref q), (0, .ref a0), (1, .int c1), (2, .int c2), (3, .ref a3)]) hx hb dL_wash_17 hl (by decide) rfl (fun ls hl => ?_)
        refine lv_iconst (v := (2 : Int32)) hx hb dL_wash_19 (by decide) ?_
        exact r_iret cx w h dL_wash_20
      · have h := x_f h k8
        exact nn h
-- L_face
abbrev rmL_face : Room := { frames := 7, cells := 1, slots := 6, locals := 143 }
def m_L_face (G : gS) (M : mS) (a0 : Nat) (c1 : Int32) (c2 : Int32) (a3 : Nat) : Option (mS × Int32) := o_tr (t_X9_face G M a0 c1 c2) (fun M1 r2 => o_ix (0 : Int32) (gN G a3) (o_wJ M1 a3 (Int32.toNatClampNeg (0 : Int32)) (Int32.toInt64 r2) (fun M6 => some (M6, (0 : Int32))))) (fun M1 E3 => if E3 = "java/lang/IndexOutOfBoundsException" then some (M1, (1 : Int32)) else none)
set_option maxHeartbeats 4000000 in
set_option maxRecDepth 100000 in
theorem k_L_face {l : Launch} {D : va_G} {cy : cyS} {G : gS} {M M' : mS} {r : Int32} {a0 : Nat} {c1 : Int32} {c2 : Int32} {a3 : Nat} (hG : wt G) (hst : l.stackTraces = false) (hL0 : a0 ∈ gL G) (hK0 : gK G a0 = 8) (hL3 : a3 ∈ gL G) (hK3 : gK G a3 = 13) (h : m_L_face G M a0 c1 c2 a3 = some (M', r)) : ctW l yL_face wsL_face rmL_face D cy G M [.ref a0, .int c1, .int c2, .ref a3] M' r := by
  unfold m_L_face at h
  refine ctW_of (cc := cL_face) (nL := 5) (ret := (some .int)) (lv := [(0, .ref a0), (1, .int c1), (2, .int c2), (3, .ref a3)]) hG (by decide) rfl (Nat.le_of_ble_eq_true rfl) rfl ?_
  intro p e s m args below meth c A ls cx ht w hl
  obtain ⟨hx, hb, hml, hown, hts, hr, hlocks, hK, hA, -, hsx⟩ := id cx
  have hkn : 0 ≤ (rmL_face).cells ∧ 0 ≤ (rmL_face).slots := ⟨Nat.zero_le _, Nat.zero_le _⟩
  refine lv_aload_n hx hb dL_face_0 rfl (lv_at hl 3 rfl) ?_
  refine lv_iconst (v := (0 : Int32)) hx hb dL_face_1 (by decide) ?_
  refine lv_aload_n hx hb dL_face_2 rfl (lv_at hl 0 rfl) ?_
  refine lv_iload_n hx hb dL_face_3 rfl (lv_at hl 1 rfl) ?_
  refine lv_iload_n hx hb dL_face_4 rfl (lv_at hl 2 rfl) ?_
  rcases x_tr h with ⟨M1, r2, y4, h⟩ | ⟨M1, E3, y4, h⟩
  · refine r_xcallV (As := [.int c1, .int c2]) (rest := [.int ((0 : Int32)), .ref a3]) cx w ⟨Nat.le_of_ble_eq_true rfl, Nat.le_of_ble_eq_true rfl⟩ hl.1 (kt_X9_face hG hst hL0 hK0 y4) (cwV 2 hts gL_face_X9_face rfl rfl rfl (by decide +kernel) ⟨Nat.le_of_ble_eq_true rfl, Nat.le_of_ble_eq_true rfl⟩) hL0 hK0 (by decide) rfl rfl rfl (Nat.le_of_ble_eq_true rfl) dL_face_5 (fun E ce q H1 locs1 e => by cases e) (fun r1 H locs e w => ?_)
    cases e
    refine lv_i2l (v := (Int32.toInt64 r2)) hx hb dL_face_8 rfl ?_
    obtain ⟨z5, h⟩ := x_ix h
    obtain ⟨M6, eM6, h⟩ := x_wJ h
    refine r_last cx w hL3 hK3 z5 dL_face_9 eM6 (fun H locs w => ?_)
    refine lv_goto (tgt := 17) hx hb dL_face_10 (by decide) ?_
    refine lv_iconst (v := (0 : Int32)) hx hb dL_face_17 (by decide) ?_
    exact r_iret cx w h dL_face_18
  · refine r_xcallV (As := [.int c1, .int c2]) (rest := [.int ((0 : Int32)), .ref a3]) cx w ⟨Nat.le_of_ble_eq_true rfl, Nat.le_of_ble_eq_true rfl⟩ hl.1 (kt_X9_face hG hst hL0 hK0 y4) (cwV 2 hts gL_face_X9_face rfl rfl rfl (by decide +kernel) ⟨Nat.le_of_ble_eq_true rfl, Nat.le_of_ble_eq_true rfl⟩) hL0 hK0 (by decide) rfl rfl rfl (Nat.le_of_ble_eq_true rfl) dL_face_5 (fun E ce q H locs e w h1 h2 h3 => ?_) (fun r1 H locs e => by cases e)
    cases e
    rcases Decidable.em (E3 = "java/lang/IndexOutOfBoundsException") with k7 | k7
    · have h := x_t h k7
      subst k7
      refine r_catch1 cx ht (by decide) (by decide) (List.mem_of_getElem? (i := 1) rfl) (List.mem_of_getElem? (i := 2) rfl) h1 h2 h3 ?_
      refine lv_astore (lv' := [(4, .ref q), (0, .ref a0), (1, .int c1), (2, .int c2), (3, .ref a3)]) hx hb dL_face_13 hl (by decide) rfl (fun ls hl => ?_)
      refine lv_iconst (v := (1 : Int32)) hx hb dL_face_15 (by decide) ?_
      exact r_iret cx w h dL_face_16
    · have h := x_f h k7
      exact nn h
-- L_halt
abbrev rmL_halt : Room := { frames := 7, cells := 1, slots := 6, locals := 141 }
def m_L_halt_15 (G : gS) (a0 : Nat) (c1 : Int32) (a2 : Nat)  (M : mS) (s1 : Int32) (s2 : Int64) : Option (mS × Int32) := o_ix s1 (gN G a2) (o_wJ M a2 (Int32.toNatClampNeg s1) s2 (fun M2 => some (M2, (0 : Int32))))
def m_L_halt (G : gS) (M : mS) (a0 : Nat) (c1 : Int32) (a2 : Nat) : Option (mS × Int32) := o_tr (t_X9_halt G M a0 c1) (fun M1 r2 => (if r2 = 0 then m_L_halt_15 G a0 c1 a2 M1 ((0 : Int32)) ((0 : Int64)) else m_L_halt_15 G a0 c1 a2 M1 ((0 : Int32)) ((1 : Int64)))) (fun M1 E3 => if E3 = "java/lang/IndexOutOfBoundsException" then some (M1, (1 : Int32)) else none)
set_option maxHeartbeats 4000000 in
set_option maxRecDepth 100000 in
theorem b_L_halt_15 {p : Program} {e : Env} {s : State} {m : MethodId} {args : Array Value} {below : List Frame} {meth : Method} {c : Code} {A : Nat → Prop} {l : Launch} {D : va_G} {cy : cyS} {G : gS} (cx : cX p s m args meth c cL_halt RL 4 (some .int) wsL_halt D cy G A) {k0 n0 : Nat} (hkn : k0 ≤ (rmL_halt).cells ∧ n0 ≤ (rmL_halt).slots) {M' : mS} {r : Int32} {a0 : Nat} {c1 : Int32} {a2 : Nat} (hL0 : a0 ∈ gL G) (hK0 : gK G a0 = 8) (hL2 : a2 ∈ gL G) (hK2 : gK G a2 = 13)  : ∀ (M : mS) (s1 : Int32) (s2 : Int64) (H : Heap) (locs : List Loc) (ls : Array Slot), m_L_halt_15 G a0 c1 a2 M s1 s2 = some (M', r) → wd D cy G M A s.heap H locs → lv_has ls 4 [] → W p l e rmL_halt s m args below meth c H locs k0 n0 (MQ below (va_Qi (fun (r' : Int32) (_ : Unit) => r' = r) (fun _ t => wOut D cy G M' t) A) args s k0 n0 A) (F0 m 15 ls [.long s2, .int s1, .ref a2]) := by
  obtain ⟨hx, hb, hml, hown, hts, hr, hlocks, hK, hA, hG, hsx⟩ := id cx
  intro M s1 s2 H locs ls h w hl
  unfold m_L_halt_15 at h
  obtain ⟨z1, h⟩ := x_ix h
  obtain ⟨M2, eM2, h⟩ := x_wJ h
  refine r_last cx w hL2 hK2 z1 dL_halt_15 eM2 (fun H locs w => ?_)
  refine lv_goto (tgt := 22) hx hb dL_halt_16 (by decide) ?_
  refine lv_iconst (v := (0 : Int32)) hx hb dL_halt_22 (by decide) ?_
  exact r_iret cx w h dL_halt_23
set_option maxHeartbeats 4000000 in
set_option maxRecDepth 100000 in
theorem k_L_halt {l : Launch} {D : va_G} {cy : cyS} {G : gS} {M M' : mS} {r : Int32} {a0 : Nat} {c1 : Int32} {a2 : Nat} (hG : wt G) (hst : l.stackTraces = false) (hL0 : a0 ∈ gL G) (hK0 : gK G a0 = 8) (hL2 : a2 ∈ gL G) (hK2 : gK G a2 = 13) (h : m_L_halt G M a0 c1 a2 = some (M', r)) : ctW l yL_halt wsL_halt rmL_halt D cy G M [.ref a0, .int c1, .ref a2] M' r := by
  unfold m_L_halt at h
  refine ctW_of (cc := cL_halt) (nL := 4) (ret := (some .int)) (lv := [(0, .ref a0), (1, .int c1), (2, .ref a2)]) hG (by decide) rfl (Nat.le_of_ble_eq_true rfl) rfl ?_
  intro p e s m args below meth c A ls cx ht w hl
  obtain ⟨hx, hb, hml, hown, hts, hr, hlocks, hK, hA, -, hsx⟩ := id cx
  have hkn : 0 ≤ (rmL_halt).cells ∧ 0 ≤ (rmL_halt).slots := ⟨Nat.zero_le _, Nat.zero_le _⟩
  refine lv_aload_n hx hb dL_halt_0 rfl (lv_at hl 2 rfl) ?_
  refine lv_iconst (v := (0 : Int32)) hx hb dL_halt_1 (by decide) ?_
  refine lv_aload_n hx hb dL_halt_2 rfl (lv_at hl 0 rfl) ?_
  refine lv_iload_n hx hb dL_halt_3 rfl (lv_at hl 1 rfl) ?_
  rcases x_tr h with ⟨M1, r2, y4, h⟩ | ⟨M1, E3, y4, h⟩
  · refine r_xcallV (As := [.int c1]) (rest := [.int ((0 : Int32)), .ref a2]) cx w ⟨Nat.le_of_ble_eq_true rfl, Nat.le_of_ble_eq_true rfl⟩ hl.1 (kt_X9_halt hG hst hL0 hK0 y4) (cwV 1 hts gL_halt_X9_halt rfl rfl rfl (by decide +kernel) ⟨Nat.le_of_ble_eq_true rfl, Nat.le_of_ble_eq_true rfl⟩) hL0 hK0 (by decide) rfl rfl rfl (Nat.le_of_ble_eq_true rfl) dL_halt_4 (fun E ce q H1 locs1 e => by cases e) (fun r1 H locs e w => ?_)
    cases e
    refine lv_if_eq (tgt := 14) hx hb dL_halt_7 (by decide) (fun k5 => ?_) (fun k5 => ?_)
    · have h := x_t h k5
      refine lv_lconst (v := 0) hx hb dL_halt_14 (by decide) ?_
      exact b_L_halt_15 cx (k0 := 1) (n0 := 6) ⟨Nat.le_of_ble_eq_true rfl, Nat.le_of_ble_eq_true rfl⟩ hL0 hK0 hL2 hK2 M1 ((0 : Int32)) ((0 : Int64)) H locs ls h w (lv_sub hl [] rfl)
    · have h := x_f h k5
      refine lv_lconst (v := 1) hx hb dL_halt_10 (by decide) ?_
      refine lv_goto (tgt := 15) hx hb dL_halt_11 (by decide) ?_
      exact b_L_halt_15 cx (k0 := 1) (n0 := 6) ⟨Nat.le_of_ble_eq_true rfl, Nat.le_of_ble_eq_true rfl⟩ hL0 hK0 hL2 hK2 M1 ((0 : Int32)) ((1 : Int64)) H locs ls h w (lv_sub hl [] rfl)
  · refine r_xcallV (As := [.int c1]) (rest := [.int ((0 : Int32)), .ref a2]) cx w ⟨Nat.le_of_ble_eq_true rfl, Nat.le_of_ble_eq_true rfl⟩ hl.1 (kt_X9_halt hG hst hL0 hK0 y4) (cwV 1 hts gL_halt_X9_halt rfl rfl rfl (by decide +kernel) ⟨Nat.le_of_ble_eq_true rfl, Nat.le_of_ble_eq_true rfl⟩) hL0 hK0 (by decide) rfl rfl rfl (Nat.le_of_ble_eq_true rfl) dL_halt_4 (fun E ce q H locs e w h1 h2 h3 => ?_) (fun r1 H locs e => by cases e)
    cases e
    rcases Decidable.em (E3 = "java/lang/IndexOutOfBoundsException") with k6 | k6
    · have h := x_t h k6
      subst k6
      refine r_catch1 cx ht (by decide) (by decide) (List.mem_of_getElem? (i := 1) rfl) (List.mem_of_getElem? (i := 2) rfl) h1 h2 h3 ?_
      refine lv_astore_n (lv' := [(3, .ref q), (0, .ref a0), (1, .int c1), (2, .ref a2)]) hx hb dL_halt_19 rfl hl (by decide) rfl (fun ls hl => ?_)
      refine lv_iconst (v := (1 : Int32)) hx hb dL_halt_20 (by decide) ?_
      exact r_iret cx w h dL_halt_21
    · have h := x_f h k6
      exact nn h
-- L_place
abbrev rmL_place : Room := { frames := 7, cells := 1, slots := 6, locals := 144 }
def m_L_place (G : gS) (M : mS) (a0 : Nat) (c1 : Int32) (c2 : Int32) (c3 : Int32) (a4 : Nat) : Option (mS × Int32) := o_tr (t_X9_place G M a0 c1 c2 c3) (fun M1 r2 => o_ix (0 : Int32) (gN G a4) (o_wJ M1 a4 (Int32.toNatClampNeg (0 : Int32)) (Int32.toInt64 r2) (fun M6 => some (M6, (0 : Int32))))) (fun M1 E3 => if E3 = "java/lang/IndexOutOfBoundsException" then some (M1, (1 : Int32)) else none)
set_option maxHeartbeats 4000000 in
set_option maxRecDepth 100000 in
theorem k_L_place {l : Launch} {D : va_G} {cy : cyS} {G : gS} {M M' : mS} {r : Int32} {a0 : Nat} {c1 : Int32} {c2 : Int32} {c3 : Int32} {a4 : Nat} (hG : wt G) (hst : l.stackTraces = false) (hL0 : a0 ∈ gL G) (hK0 : gK G a0 = 8) (hL4 : a4 ∈ gL G) (hK4 : gK G a4 = 13) (h : m_L_place G M a0 c1 c2 c3 a4 = some (M', r)) : ctW l yL_place wsL_place rmL_place D cy G M [.ref a0, .int c1, .int c2, .int c3, .ref a4] M' r := by
  unfold m_L_place at h
  refine ctW_of (cc := cL_place) (nL := 6) (ret := (some .int)) (lv := [(0, .ref a0), (1, .int c1), (2, .int c2), (3, .int c3), (4, .ref a4)]) hG (by decide) rfl (Nat.le_of_ble_eq_true rfl) rfl ?_
  intro p e s m args below meth c A ls cx ht w hl
  obtain ⟨hx, hb, hml, hown, hts, hr, hlocks, hK, hA, -, hsx⟩ := id cx
  have hkn : 0 ≤ (rmL_place).cells ∧ 0 ≤ (rmL_place).slots := ⟨Nat.zero_le _, Nat.zero_le _⟩
  refine lv_aload hx hb dL_place_0 (lv_at hl 4 rfl) ?_
  refine lv_iconst (v := (0 : Int32)) hx hb dL_place_2 (by decide) ?_
  refine lv_aload_n hx hb dL_place_3 rfl (lv_at hl 0 rfl) ?_
  refine lv_iload_n hx hb dL_place_4 rfl (lv_at hl 1 rfl) ?_
  refine lv_iload_n hx hb dL_place_5 rfl (lv_at hl 2 rfl) ?_
  refine lv_iload_n hx hb dL_place_6 rfl (lv_at hl 3 rfl) ?_
  rcases x_tr h with ⟨M1, r2, y4, h⟩ | ⟨M1, E3, y4, h⟩
  · refine r_xcallV (As := [.int c1, .int c2, .int c3]) (rest := [.int ((0 : Int32)), .ref a4]) cx w ⟨Nat.le_of_ble_eq_true rfl, Nat.le_of_ble_eq_true rfl⟩ hl.1 (kt_X9_place hG hst hL0 hK0 y4) (cwV 3 hts gL_place_X9_place rfl rfl rfl (by decide +kernel) ⟨Nat.le_of_ble_eq_true rfl, Nat.le_of_ble_eq_true rfl⟩) hL0 hK0 (by decide) rfl rfl rfl (Nat.le_of_ble_eq_true rfl) dL_place_7 (fun E ce q H1 locs1 e => by cases e) (fun r1 H locs e w => ?_)
    cases e
    refine lv_i2l (v := (Int32.toInt64 r2)) hx hb dL_place_10 rfl ?_
    obtain ⟨z5, h⟩ := x_ix h
    obtain ⟨M6, eM6, h⟩ := x_wJ h
    refine r_last cx w hL4 hK4 z5 dL_place_11 eM6 (fun H locs w => ?_)
    refine lv_goto (tgt := 19) hx hb dL_place_12 (by decide) ?_
    refine lv_iconst (v := (0 : Int32)) hx hb dL_place_19 (by decide) ?_
    exact r_iret cx w h dL_place_20
  · refine r_xcallV (As := [.int c1, .int c2, .int c3]) (rest := [.int ((0 : Int32)), .ref a4]) cx w ⟨Nat.le_of_ble_eq_true rfl, Nat.le_of_ble_eq_true rfl⟩ hl.1 (kt_X9_place hG hst hL0 hK0 y4) (cwV 3 hts gL_place_X9_place rfl rfl rfl (by decide +kernel) ⟨Nat.le_of_ble_eq_true rfl, Nat.le_of_ble_eq_true rfl⟩) hL0 hK0 (by decide) rfl rfl rfl (Nat.le_of_ble_eq_true rfl) dL_place_7 (fun E ce q H locs e w h1 h2 h3 => ?_) (fun r1 H locs e => by cases e)
    cases e
    rcases Decidable.em (E3 = "java/lang/IndexOutOfBoundsException") with k7 | k7
    · have h := x_t h k7
      subst k7
      refine r_catch1 cx ht (by decide) (by decide) (List.mem_of_getElem? (i := 1) rfl) (List.mem_of_getElem? (i := 2) rfl) h1 h2 h3 ?_
      refine lv_astore (lv' := [(5, .ref q), (0, .ref a0), (1, .int c1), (2, .int c2), (3, .int c3), (4, .ref a4)]) hx hb dL_place_15 hl (by decide) rfl (fun ls hl => ?_)
      refine lv_iconst (v := (1 : Int32)) hx hb dL_place_17 (by decide) ?_
      exact r_iret cx w h dL_place_18
    · have h := x_f h k7
      exact nn h
-- L_pass
abbrev rmL_pass : Room := { frames := 8, cells := 1, slots := 6, locals := 200 }
def m_L_pass (G : gS) (M : mS) (a0 : Nat) (c1 : Int32) (a2 : Nat) : Option (mS × Int32) := o_tr (t_X9_pass G M a0 c1) (fun M1 r2 => o_ix (0 : Int32) (gN G a2) (o_wJ M1 a2 (Int32.toNatClampNeg (0 : Int32)) (Int32.toInt64 r2) (fun M6 => some (M6, (0 : Int32))))) (fun M1 E3 => if E3 = "java/lang/IllegalArgumentException" then some (M1, (1 : Int32)) else none)
set_option maxHeartbeats 4000000 in
set_option maxRecDepth 100000 in
theorem k_L_pass {l : Launch} {D : va_G} {cy : cyS} {G : gS} {M M' : mS} {r : Int32} {a0 : Nat} {c1 : Int32} {a2 : Nat} (hG : wt G) (hst : l.stackTraces = false) (hL0 : a0 ∈ gL G) (hK0 : gK G a0 = 8) (hL2 : a2 ∈ gL G) (hK2 : gK G a2 = 13) (h : m_L_pass G M a0 c1 a2 = some (M', r)) : ctW l yL_pass wsL_pass rmL_pass D cy G M [.ref a0, .int c1, .ref a2] M' r := by
  unfold m_L_pass at h
  refine ctW_of (cc := cL_pass) (nL := 4) (ret := (some .int)) (lv := [(0, .ref a0), (1, .int c1), (2, .ref a2)]) hG (by decide) rfl (Nat.le_of_ble_eq_true rfl) rfl ?_
  intro p e s m args below meth c A ls cx ht w hl
  obtain ⟨hx, hb, hml, hown, hts, hr, hlocks, hK, hA, -, hsx⟩ := id cx
  have hkn : 0 ≤ (rmL_pass).cells ∧ 0 ≤ (rmL_pass).slots := ⟨Nat.zero_le _, Nat.zero_le _⟩
  refine lv_aload_n hx hb dL_pass_0 rfl (lv_at hl 2 rfl) ?_
  refine lv_iconst (v := (0 : Int32)) hx hb dL_pass_1 (by decide) ?_
  refine lv_aload_n hx hb dL_pass_2 rfl (lv_at hl 0 rfl) ?_
  refine lv_iload_n hx hb dL_pass_3 rfl (lv_at hl 1 rfl) ?_
  rcases x_tr h with ⟨M1, r2, y4, h⟩ | ⟨M1, E3, y4, h⟩
  · refine r_xcallV (As := [.int c1]) (rest := [.int ((0 : Int32)), .ref a2]) cx w ⟨Nat.le_of_ble_eq_true rfl, Nat.le_of_ble_eq_true rfl⟩ hl.1 (kt_X9_pass hG hst hL0 hK0 y4) (cwV 1 hts gL_pass_X9_pass rfl rfl rfl (by decide +kernel) ⟨Nat.le_of_ble_eq_true rfl, Nat.le_of_ble_eq_true rfl⟩) hL0 hK0 (by decide) rfl rfl rfl (Nat.le_of_ble_eq_true rfl) dL_pass_4 (fun E ce q H1 locs1 e => by cases e) (fun r1 H locs e w => ?_)
    cases e
    refine lv_i2l (v := (Int32.toInt64 r2)) hx hb dL_pass_7 rfl ?_
    obtain ⟨z5, h⟩ := x_ix h
    obtain ⟨M6, eM6, h⟩ := x_wJ h
    refine r_last cx w hL2 hK2 z5 dL_pass_8 eM6 (fun H locs w => ?_)
    refine lv_goto (tgt := 15) hx hb dL_pass_9 (by decide) ?_
    refine lv_iconst (v := (0 : Int32)) hx hb dL_pass_15 (by decide) ?_
    exact r_iret cx w h dL_pass_16
  · refine r_xcallV (As := [.int c1]) (rest := [.int ((0 : Int32)), .ref a2]) cx w ⟨Nat.le_of_ble_eq_true rfl, Nat.le_of_ble_eq_true rfl⟩ hl.1 (kt_X9_pass hG hst hL0 hK0 y4) (cwV 1 hts gL_pass_X9_pass rfl rfl rfl (by decide +kernel) ⟨Nat.le_of_ble_eq_true rfl, Nat.le_of_ble_eq_true rfl⟩) hL0 hK0 (by decide) rfl rfl rfl (Nat.le_of_ble_eq_true rfl) dL_pass_4 (fun E ce q H locs e w h1 h2 h3 => ?_) (fun r1 H locs e => by cases e)
    cases e
    rcases Decidable.em (E3 = "java/lang/IllegalArgumentException") with k7 | k7
    · have h := x_t h k7
      subst k7
      refine r_catch1 cx ht (by decide) (by decide) (List.mem_of_getElem? (i := 1) rfl) (List.mem_of_getElem? (i := 0) rfl) h1 h2 h3 ?_
      refine lv_astore_n (lv' := [(3, .ref q), (0, .ref a0), (1, .int c1), (2, .ref a2)]) hx hb dL_pass_12 rfl hl (by decide) rfl (fun ls hl => ?_)
      refine lv_iconst (v := (1 : Int32)) hx hb dL_pass_13 (by decide) ?_
      exact r_iret cx w h dL_pass_14
    · have h := x_f h k7
      exact nn h
-- L_foresee
abbrev rmL_foresee : Room := { frames := 8, cells := 1, slots := 6, locals := 200 }
def m_L_foresee (G : gS) (M : mS) (a0 : Nat) (c1 : Int32) (c2 : Int32) (a3 : Nat) : Option (mS × Int32) := o_tr (t_X9_foresee G M a0 c1 c2) (fun M1 r2 => o_ix (0 : Int32) (gN G a3) (o_wJ M1 a3 (Int32.toNatClampNeg (0 : Int32)) (Int32.toInt64 r2) (fun M6 => some (M6, (0 : Int32))))) (fun M1 E3 => if E3 = "java/lang/IllegalArgumentException" then some (M1, (1 : Int32)) else if E3 = "java/lang/IndexOutOfBoundsException" then some (M1, (2 : Int32)) else none)
set_option maxHeartbeats 4000000 in
set_option maxRecDepth 100000 in
theorem k_L_foresee {l : Launch} {D : va_G} {cy : cyS} {G : gS} {M M' : mS} {r : Int32} {a0 : Nat} {c1 : Int32} {c2 : Int32} {a3 : Nat} (hG : wt G) (hst : l.stackTraces = false) (hL0 : a0 ∈ gL G) (hK0 : gK G a0 = 8) (hL3 : a3 ∈ gL G) (hK3 : gK G a3 = 13) (h : m_L_foresee G M a0 c1 c2 a3 = some (M', r)) : ctW l yL_foresee wsL_foresee rmL_foresee D cy G M [.ref a0, .int c1, .int c2, .ref a3] M' r := by
  unfold m_L_foresee at h
  refine ctW_of (cc := cL_foresee) (nL := 5) (ret := (some .int)) (lv := [(0, .ref a0), (1, .int c1), (2, .int c2), (3, .ref a3)]) hG (by decide) rfl (Nat.le_of_ble_eq_true rfl) rfl ?_
  intro p e s m args below meth c A ls cx ht w hl
  obtain ⟨hx, hb, hml, hown, hts, hr, hlocks, hK, hA, -, hsx⟩ := id cx
  have hkn : 0 ≤ (rmL_foresee).cells ∧ 0 ≤ (rmL_foresee).slots := ⟨Nat.zero_le _, Nat.zero_le _⟩
  refine lv_aload_n hx hb dL_foresee_0 rfl (lv_at hl 3 rfl) ?_
  refine lv_iconst (v := (0 : Int32)) hx hb dL_foresee_1 (by decide) ?_
  refine lv_aload_n hx hb dL_foresee_2 rfl (lv_at hl 0 rfl) ?_
  refine lv_iload_n hx hb dL_foresee_3 rfl (lv_at hl 1 rfl) ?_
  refine lv_iload_n hx hb dL_foresee_4 rfl (lv_at hl 2 rfl) ?_
  rcases x_tr h with ⟨M1, r2, y4, h⟩ | ⟨M1, E3, y4, h⟩
  · refine r_xcallV (As := [.int c1, .int c2]) (rest := [.int ((0 : Int32)), .ref a3]) cx w ⟨Nat.le_of_ble_eq_true rfl, Nat.le_of_ble_eq_true rfl⟩ hl.1 (kt_X9_foresee hG hst hL0 hK0 y4) (cwV 2 hts gL_foresee_X9_foresee rfl rfl rfl (by decide +kernel) ⟨Nat.le_of_ble_eq_true rfl, Nat.le_of_ble_eq_true rfl⟩) hL0 hK0 (by decide) rfl rfl rfl (Nat.le_of_ble_eq_true rfl) dL_foresee_5 (fun E ce q H1 locs1 e => by cases e) (fun r1 H locs e w => ?_)
    cases e
    refine lv_i2l (v := (Int32.toInt64 r2)) hx hb dL_foresee_8 rfl ?_
    obtain ⟨z5, h⟩ := x_ix h
    obtain ⟨M6, eM6, h⟩ := x_wJ h
    refine r_last cx w hL3 hK3 z5 dL_foresee_9 eM6 (fun H locs w => ?_)
    refine lv_goto (tgt := 21) hx hb dL_foresee_10 (by decide) ?_
    refine lv_iconst (v := (0 : Int32)) hx hb dL_foresee_21 (by decide) ?_
    exact r_iret cx w h dL_foresee_22
  · refine r_xcallV (As := [.int c1, .int c2]) (rest := [.int ((0 : Int32)), .ref a3]) cx w ⟨Nat.le_of_ble_eq_true rfl, Nat.le_of_ble_eq_true rfl⟩ hl.1 (kt_X9_foresee hG hst hL0 hK0 y4) (cwV 2 hts gL_foresee_X9_foresee rfl rfl rfl (by decide +kernel) ⟨Nat.le_of_ble_eq_true rfl, Nat.le_of_ble_eq_true rfl⟩) hL0 hK0 (by decide) rfl rfl rfl (Nat.le_of_ble_eq_true rfl) dL_foresee_5 (fun E ce q H locs e w h1 h2 h3 => ?_) (fun r1 H locs e => by cases e)
    cases e
    rcases Decidable.em (E3 = "java/lang/IllegalArgumentException") with k7 | k7
    · have h := x_t h k7
      subst k7
      refine r_catch1 cx ht (by decide) (by decide) (List.mem_of_getElem? (i := 1) rfl) (List.mem_of_getElem? (i := 0) rfl) h1 h2 h3 ?_
      refine lv_astore (lv' := [(4, .ref q), (0, .ref a0), (1, .int c1), (2, .int c2), (3, .ref a3)]) hx hb dL_foresee_13 hl (by decide) rfl (fun ls hl => ?_)
      refine lv_iconst (v := (1 : Int32)) hx hb dL_foresee_15 (by decide) ?_
      exact r_iret cx w h dL_foresee_16
    · have h := x_f h k7
      rcases Decidable.em (E3 = "java/lang/IndexOutOfBoundsException") with k8 | k8
      · have h := x_t h k8
        subst k8
        refine r_catch2 cx ht (by decide) (by decide) (by decide) (List.mem_of_getElem? (i := 2) rfl) (List.mem_of_getElem? (i := 1) rfl) (List.mem_of_getElem? (i := 1) rfl) (List.mem_of_getElem? (i := 2) rfl) h1 h2 h3 ?_
        refine lv_astore (lv' := [(4, .ref q), (0, .ref a0), (1, .int c1), (2, .int c2), (3, .ref a3)]) hx hb dL_foresee_17 hl (by decide) rfl (fun ls hl => ?_)
        refine lv_iconst (v := (2 : Int32)) hx hb dL_foresee_19 (by decide) ?_
        exact r_iret cx w h dL_foresee_20
      · have h := x_f h k8
        exact nn h
-- L_until
abbrev rmL_until : Room := { frames := 7, cells := 1, slots := 6, locals := 180 }
def m_L_until (G : gS) (M : mS) (a0 : Nat) (c1 : Int32) (c2 : Int32) (c3 : Int32) (a4 : Nat) : Option (mS × Int32) := o_tr (t_X9_until G M a0 c1 c2 c3) (fun M1 r2 => o_ix (0 : Int32) (gN G a4) (o_wJ M1 a4 (Int32.toNatClampNeg (0 : Int32)) (Int32.toInt64 r2) (fun M6 => some (M6, (0 : Int32))))) (fun M1 E3 => if E3 = "java/lang/IndexOutOfBoundsException" then some (M1, (1 : Int32)) else none)
set_option maxHeartbeats 4000000 in
set_option maxRecDepth 100000 in
theorem k_L_until {l : Launch} {D : va_G} {cy : cyS} {G : gS} {M M' : mS} {r : Int32} {a0 : Nat} {c1 : Int32} {c2 : Int32} {c3 : Int32} {a4 : Nat} (hG : wt G) (hst : l.stackTraces = false) (hL0 : a0 ∈ gL G) (hK0 : gK G a0 = 8) (hL4 : a4 ∈ gL G) (hK4 : gK G a4 = 13) (h : m_L_until G M a0 c1 c2 c3 a4 = some (M', r)) : ctW l yL_until wsL_until rmL_until D cy G M [.ref a0, .int c1, .int c2, .int c3, .ref a4] M' r := by
  unfold m_L_until at h
  refine ctW_of (cc := cL_until) (nL := 6) (ret := (some .int)) (lv := [(0, .ref a0), (1, .int c1), (2, .int c2), (3, .int c3), (4, .ref a4)]) hG (by decide) rfl (Nat.le_of_ble_eq_true rfl) rfl ?_
  intro p e s m args below meth c A ls cx ht w hl
  obtain ⟨hx, hb, hml, hown, hts, hr, hlocks, hK, hA, -, hsx⟩ := id cx
  have hkn : 0 ≤ (rmL_until).cells ∧ 0 ≤ (rmL_until).slots := ⟨Nat.zero_le _, Nat.zero_le _⟩
  refine lv_aload hx hb dL_until_0 (lv_at hl 4 rfl) ?_
  refine lv_iconst (v := (0 : Int32)) hx hb dL_until_2 (by decide) ?_
  refine lv_aload_n hx hb dL_until_3 rfl (lv_at hl 0 rfl) ?_
  refine lv_iload_n hx hb dL_until_4 rfl (lv_at hl 1 rfl) ?_
  refine lv_iload_n hx hb dL_until_5 rfl (lv_at hl 2 rfl) ?_
  refine lv_iload_n hx hb dL_until_6 rfl (lv_at hl 3 rfl) ?_
  rcases x_tr h with ⟨M1, r2, y4, h⟩ | ⟨M1, E3, y4, h⟩
  · refine r_xcallV (As := [.int c1, .int c2, .int c3]) (rest := [.int ((0 : Int32)), .ref a4]) cx w ⟨Nat.le_of_ble_eq_true rfl, Nat.le_of_ble_eq_true rfl⟩ hl.1 (kt_X9_until hG hst hL0 hK0 y4) (cwV 3 hts gL_until_X9_until rfl rfl rfl (by decide +kernel) ⟨Nat.le_of_ble_eq_true rfl, Nat.le_of_ble_eq_true rfl⟩) hL0 hK0 (by decide) rfl rfl rfl (Nat.le_of_ble_eq_true rfl) dL_until_7 (fun E ce q H1 locs1 e => by cases e) (fun r1 H locs e w => ?_)
    cases e
    refine lv_i2l (v := (Int32.toInt64 r2)) hx hb dL_until_10 rfl ?_
    obtain ⟨z5, h⟩ := x_ix h
    obtain ⟨M6, eM6, h⟩ := x_wJ h
    refine r_last cx w hL4 hK4 z5 dL_until_11 eM6 (fun H locs w => ?_)
    refine lv_goto (tgt := 19) hx hb dL_until_12 (by decide) ?_
    refine lv_iconst (v := (0 : Int32)) hx hb dL_until_19 (by decide) ?_
    exact r_iret cx w h dL_until_20
  · refine r_xcallV (As := [.int c1, .int c2, .int c3]) (rest := [.int ((0 : Int32)), .ref a4]) cx w ⟨Nat.le_of_ble_eq_true rfl, Nat.le_of_ble_eq_true rfl⟩ hl.1 (kt_X9_until hG hst hL0 hK0 y4) (cwV 3 hts gL_until_X9_until rfl rfl rfl (by decide +kernel) ⟨Nat.le_of_ble_eq_true rfl, Nat.le_of_ble_eq_true rfl⟩) hL0 hK0 (by decide) rfl rfl rfl (Nat.le_of_ble_eq_true rfl) dL_until_7 (fun E ce q H locs e w h1 h2 h3 => ?_) (fun r1 H locs e => by cases e)
    cases e
    rcases Decidable.em (E3 = "java/lang/IndexOutOfBoundsException") with k7 | k7
    · have h := x_t h k7
      subst k7
      refine r_catch1 cx ht (by decide) (by decide) (List.mem_of_getElem? (i := 1) rfl) (List.mem_of_getElem? (i := 2) rfl) h1 h2 h3 ?_
      refine lv_astore (lv' := [(5, .ref q), (0, .ref a0), (1, .int c1), (2, .int c2), (3, .int c3), (4, .ref a4)]) hx hb dL_until_15 hl (by decide) rfl (fun ls hl => ?_)
      refine lv_iconst (v := (1 : Int32)) hx hb dL_until_17 (by decide) ?_
      exact r_iret cx w h dL_until_18
    · have h := x_f h k7
      exact nn h
-- L_advise
abbrev rmL_advise : Room := { frames := 8, cells := 1, slots := 6, locals := 202 }
def m_L_advise (G : gS) (M : mS) (a0 : Nat) (c1 : Int32) (a2 : Nat) : Option (mS × Int32) := o_tr (t_X9_advise G M a0 c1) (fun M1 r2 => o_ix (0 : Int32) (gN G a2) (o_wJ M1 a2 (Int32.toNatClampNeg (0 : Int32)) (Int32.toInt64 r2) (fun M6 => some (M6, (0 : Int32))))) (fun M1 E3 => if E3 = "java/lang/IllegalArgumentException" then some (M1, (1 : Int32)) else none)
set_option maxHeartbeats 4000000 in
set_option maxRecDepth 100000 in
theorem k_L_advise {l : Launch} {D : va_G} {cy : cyS} {G : gS} {M M' : mS} {r : Int32} {a0 : Nat} {c1 : Int32} {a2 : Nat} (hG : wt G) (hst : l.stackTraces = false) (hL0 : a0 ∈ gL G) (hK0 : gK G a0 = 8) (hL2 : a2 ∈ gL G) (hK2 : gK G a2 = 13) (h : m_L_advise G M a0 c1 a2 = some (M', r)) : ctW l yL_advise wsL_advise rmL_advise D cy G M [.ref a0, .int c1, .ref a2] M' r := by
  unfold m_L_advise at h
  refine ctW_of (cc := cL_advise) (nL := 4) (ret := (some .int)) (lv := [(0, .ref a0), (1, .int c1), (2, .ref a2)]) hG (by decide) rfl (Nat.le_of_ble_eq_true rfl) rfl ?_
  intro p e s m args below meth c A ls cx ht w hl
  obtain ⟨hx, hb, hml, hown, hts, hr, hlocks, hK, hA, -, hsx⟩ := id cx
  have hkn : 0 ≤ (rmL_advise).cells ∧ 0 ≤ (rmL_advise).slots := ⟨Nat.zero_le _, Nat.zero_le _⟩
  refine lv_aload_n hx hb dL_advise_0 rfl (lv_at hl 2 rfl) ?_
  refine lv_iconst (v := (0 : Int32)) hx hb dL_advise_1 (by decide) ?_
  refine lv_aload_n hx hb dL_advise_2 rfl (lv_at hl 0 rfl) ?_
  refine lv_iload_n hx hb dL_advise_3 rfl (lv_at hl 1 rfl) ?_
  rcases x_tr h with ⟨M1, r2, y4, h⟩ | ⟨M1, E3, y4, h⟩
  · refine r_xcallV (As := [.int c1]) (rest := [.int ((0 : Int32)), .ref a2]) cx w ⟨Nat.le_of_ble_eq_true rfl, Nat.le_of_ble_eq_true rfl⟩ hl.1 (kt_X9_advise hG hst hL0 hK0 y4) (cwV 1 hts gL_advise_X9_advise rfl rfl rfl (by decide +kernel) ⟨Nat.le_of_ble_eq_true rfl, Nat.le_of_ble_eq_true rfl⟩) hL0 hK0 (by decide) rfl rfl rfl (Nat.le_of_ble_eq_true rfl) dL_advise_4 (fun E ce q H1 locs1 e => by cases e) (fun r1 H locs e w => ?_)
    cases e
    refine lv_i2l (v := (Int32.toInt64 r2)) hx hb dL_advise_7 rfl ?_
    obtain ⟨z5, h⟩ := x_ix h
    obtain ⟨M6, eM6, h⟩ := x_wJ h
    refine r_last cx w hL2 hK2 z5 dL_advise_8 eM6 (fun H locs w => ?_)
    refine lv_goto (tgt := 15) hx hb dL_advise_9 (by decide) ?_
    refine lv_iconst (v := (0 : Int32)) hx hb dL_advise_15 (by decide) ?_
    exact r_iret cx w h dL_advise_16
  · refine r_xcallV (As := [.int c1]) (rest := [.int ((0 : Int32)), .ref a2]) cx w ⟨Nat.le_of_ble_eq_true rfl, Nat.le_of_ble_eq_true rfl⟩ hl.1 (kt_X9_advise hG hst hL0 hK0 y4) (cwV 1 hts gL_advise_X9_advise rfl rfl rfl (by decide +kernel) ⟨Nat.le_of_ble_eq_true rfl, Nat.le_of_ble_eq_true rfl⟩) hL0 hK0 (by decide) rfl rfl rfl (Nat.le_of_ble_eq_true rfl) dL_advise_4 (fun E ce q H locs e w h1 h2 h3 => ?_) (fun r1 H locs e => by cases e)
    cases e
    rcases Decidable.em (E3 = "java/lang/IllegalArgumentException") with k7 | k7
    · have h := x_t h k7
      subst k7
      refine r_catch1 cx ht (by decide) (by decide) (List.mem_of_getElem? (i := 1) rfl) (List.mem_of_getElem? (i := 0) rfl) h1 h2 h3 ?_
      refine lv_astore_n (lv' := [(3, .ref q), (0, .ref a0), (1, .int c1), (2, .ref a2)]) hx hb dL_advise_12 rfl hl (by decide) rfl (fun ls hl => ?_)
      refine lv_iconst (v := (1 : Int32)) hx hb dL_advise_13 (by decide) ?_
      exact r_iret cx w h dL_advise_14
    · have h := x_f h k7
      exact nn h
