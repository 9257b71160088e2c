/-! rows of rows of ints: the words and rows that the law's arrays want -/
def va_AOA (t : FieldType) (U : State) : Prop := (Cond.arrayOver (.array t)).before #[] U = true
theorem va_AOA.use {t : FieldType} {A : Array Value} {U : State} (h : va_AOA t U) : (Cond.arrayOver (.array t)).before A U = true := h
theorem ar_moved {t : FieldType} {u U : State} (hvm : u.vm.Alike U.vm) (h : va_AOA t u) : va_AOA t U := over_moved hvm h
theorem ar_cell (c : ClassId) (a : vp_A) : (vp_cell c a).cls = c ∧ (vp_cell c a).vm = .none := by
  obtain ⟨n, f | f | f | f | f⟩ := a <;> exact ⟨rfl, rfl⟩
section ArRows
variable {p : Program} {l : Launch} {e : Env} {R : Room} {s : State} {m : MethodId} {args : Array Value} {below : List Frame} {meth : Method} {c : Code} {H : Heap} {locs : List Loc} {cells slots : Nat} {Q : State → Prop} {cc : ByteArray} {pc : Nat} {ls : Array Slot} {rest : List Value} {D : va_G} {cl : List vw_C} {A : Nat → Prop} {a : Nat} {tys : List (ClassId × FieldType)} {ws : va_W} {H0 : Heap}
theorem ar_ald (hx : p.tables.exec = Jvm.exec) (hb : c.code = cc) (hK : va_K D cl tys s) (hP : va_P D cl ws H) (q0 t0 : Nat) {cA : ClassId} {n : Nat} {f : Nat → Option Nat} (ha : ws[q0]? = some (a, .inl (cA, n, .inr (.inr (.inr (.inr f)))))) (ht : tys[t0]? = some (cA, .array .int)) {i : Int32} (hin : vp_in i n) (hdg : decode cc pc = .ok (.aaload, 1))
    (kk : W p l e R s m args below meth c H locs cells slots Q (F0 m (pc + 1) ls (va_rf (f i.toNatClampNeg) :: rest))) : W p l e R s m args below meth c H locs cells slots Q (F0 m pc ls (.int i :: .ref a :: rest)) := by
  have hlt : i.toNatClampNeg < n := by
    unfold vp_in at hin
    omega
  have hsz : ¬ (i < 0 ∨ (arrV cA n (fun j => va_rf (f j))).slots.size ≤ i.toNatClampNeg) := by rw [arrV_size]; exact hin
  have hrd : (arrV cA n (fun j => va_rf (f j))).slots[i.toNatClampNeg]? = some (va_rf (f i.toNatClampNeg)) := arrV_read _ _ hlt
  exact W.aald (v := va_rf (f i.toNatClampNeg)) (ty := .array .int) hx hb (hP q0 _ ha) ((hK.2 t0 _ ht).1 n (fun j => va_rf (f j))) rfl (fun q => by cases q) hsz hrd rfl rfl hdg kk
theorem ar_ast (hx : p.tables.exec = Jvm.exec) (hb : c.code = cc) (hK : va_K D cl tys s) (hP : va_P D cl ws H) (hD : va_D A ws) (hS : va_S A H0 H locs) (q0 t0 qk t1 : Nat) {cA cI : ClassId} {n v : Nat} {w : vp_A} {f : Nat → Option Nat} (ha : ws[q0]? = some (a, .inl (cA, n, .inr (.inr (.inr (.inr f)))))) (ht : tys[t0]? = some (cA, .array .int)) (hZ : va_AOA .int s) (hv : ws[qk]? = some (v, .inl (cI, w))) (hi : tys[t1]? = some (cI, .int)) {i : Int32} (hin : vp_in i n) (hdg : decode cc pc = .ok (.aastore, 1))
    (kk : ∀ (H1 : Heap) (locs1 : List Loc), va_P D cl (ws.set q0 (a, .inl (cA, n, .inr (.inr (.inr (.inr (va_up f i.toNatClampNeg (some v)))))))) H1 → va_D A (ws.set q0 (a, .inl (cA, n, .inr (.inr (.inr (.inr (va_up f i.toNatClampNeg (some v)))))))) → va_S A H0 H1 locs1 → W p l e R s m args below meth c H1 locs1 cells slots Q (F0 m (pc + 1) ls rest)) : W p l e R s m args below meth c H locs cells slots Q (F0 m pc ls (.ref v :: .int i :: .ref a :: rest)) := by
  obtain ⟨comp, c2, kA, h1, -, h2, h3, h4⟩ := arrayOverA_spec (va_AOA.use (A := args) hZ)
  have hcA : s.vm.findClass ("[" ++ (FieldType.array .int).toString) = some cA := (hK.2 t0 _ ht).2
  have hcI : s.vm.findClass ("[" ++ FieldType.int.toString) = some cI := (hK.2 t1 _ hi).2
  obtain rfl : c2 = cA := Option.some.inj (h4.symm.trans hcA)
  obtain rfl : comp = cI := Option.some.inj (h1.symm.trans hcI)
  obtain ⟨kE, hkE, -⟩ := Vm.findClass_spec h1
  have hcell : H[v]? = some (vp_cell comp w) := hP qk _ hv
  obtain ⟨e1, e2⟩ := ar_cell comp w
  have hin2 : ¬ i < 0 ∧ i.toNatClampNeg < (vp_cell c2 (n, .inr (.inr (.inr (.inr f))))).slots.size := by
    rw [vp_cell_q, arrV_size]
    exact ⟨fun h => hin (Or.inl h), Nat.not_le.mp fun h => hin (Or.inr h)⟩
  refine W.aast hx hb (hP q0 _ ha) (fun q h => by cases h) (fun h => by cases h) h2 h3 rfl hkE hin2 hcell (fun q h => by rw [e2] at h; cases h) (by rw [e1]; exact hkE) (by rw [e1]; exact va_asg _ _) rfl rfl hdg (fun H1 z1 z2 z3 => ?_)
  have hset : H1[a]? = some (vp_cell c2 (n, .inr (.inr (.inr (.inr (va_up f i.toNatClampNeg (some v))))))) := by
    rw [z1, vp_cell_q, vp_cell_q, arrV_store]
    refine congrArg (fun g => some (arrV c2 n g)) (funext fun q => ?_)
    by_cases hq : q = i.toNatClampNeg
    · subst hq
      simp [updV, va_up, va_rf]
    · simp [updV, va_up, hq]
  exact kk H1 _ (hP.set hD ha hset z3) (hD.set ha) (hS.put z2 z3 (hD.2 q0 _ ha))
theorem ar_new (hx : p.tables.exec = Jvm.exec) (hb : c.code = cc) {own : String} {index : Nat} (hown : s.vm.findClass own = some m.cls) (hlink : (Cond.classLink own index "[I").before args s = true) (hover : va_AOA .int s) (hK : va_K D cl tys s) (hP : va_P D cl ws H) (hD : va_D A ws) (hS : va_S A H0 H locs) (hA : ∀ q, H0.size ≤ q → A q) (t0 : Nat) {cA : ClassId} (ht : tys[t0]? = some (cA, .array .int))
    {n : Int32} {N : Nat} (hn : ¬ n < 0) (hN : n.toNatClampNeg = N) (hbytes : N * 4 ≤ 536870912) (hcells : cells + 1 ≤ R.cells) (hslots : slots + N ≤ R.slots) (hdg : decode cc pc = .ok (.anewarray index, 3))
    (kk : ∀ (q : Nat) (H1 : Heap), va_P D cl (ws ++ [(q, .inl (cA, N, .inr (.inr (.inr (.inr (fun _ => none))))))]) H1 → va_D A (ws ++ [(q, .inl (cA, N, .inr (.inr (.inr (.inr (fun _ => none))))))]) → va_S A H0 H1 locs → W p l e R s m args below meth c H1 locs (cells + 1) (slots + N) Q (F0 m (pc + 3) ls (.ref q :: rest))) : W p l e R s m args below meth c H locs cells slots Q (F0 m pc ls (.int n :: rest)) := by
  subst hN
  refine W.anewA (t := .int) hx hb hown hlink (va_AOA.use hover) rfl hdg rfl hn hbytes hcells hslots (fun cB kB comp f1 f2 f3 f4 => ?_)
  obtain rfl : cB = cA := Option.some.inj (f1.symm.trans (hK.2 t0 _ ht).2)
  generalize hH : H.push ({ cls := cB, slots := Array.replicate n.toNatClampNeg .null, vm := .none } : Cell) = H1
  have z1 : H1.size = H.size + 1 := by rw [← hH, Array.size_push]
  have e1 : H1[H.size]? = some (vp_cell cB (n.toNatClampNeg, .inr (.inr (.inr (.inr (fun _ => none)))))) := by
    rw [← hH, Array.getElem?_push_size, vp_cell_q, ← arrV_new]
    rfl
  have o1 : ∀ q : Nat, q < H.size → H1[q]? = H[q]? := fun q hq => by rw [← hH, Array.getElem?_push, if_neg (Nat.ne_of_lt hq)]
  have hold : ∀ (k : Nat) (x : Nat × va_E), ws[k]? = some x → H1[x.1]? = H[x.1]? := fun k x hx => o1 x.1 ((hP k x hx).lt)
  have hnew : va_P D cl ([(H.size, .inl (cB, n.toNatClampNeg, .inr (.inr (.inr (.inr (fun _ => none))))))] : va_W) H1 := fun k x hx => by
    cases k with
    | zero => cases hx; exact e1
    | succ k => cases hx
  exact kk H.size H1 ((hP.kept hold).app hnew) (hD.push hP rfl (hA _ hS.1)) ⟨Nat.le_trans hS.1 (by omega), fun x h1 h2 => (o1 x (Nat.lt_of_lt_of_le h1 hS.1)).trans (hS.2.1 x h1 h2), hS.2.2⟩
end ArRows
