/-! the law from its entry, out of a statement about the mirrors alone -/
def G00 : gS := ([], fun _ => 0, fun _ => 0, fun _ _ => none)
def M00 : mS := (fun _ _ => 0, fun _ _ => 0)
def PureOk (Inv : Nat → Nat → Nat → Nat → gS → mS → Prop) : Prop := n_L_start G00 M00 (fun G M x mm o => Inv x mm o 0 G M) ∧ ∀ (x mm o j : Nat) (G : gS) (M : mS) (d c1 c2 c3 c4 c5 : Int32), j < 512 → Inv x mm o j G M → wt G → fcs (d &&& 31) c1 c2 c3 c4 c5 G M x mm o (Inv x mm o (j + 1))
theorem start_of {Inv : Nat → Nat → Nat → Nat → gS → mS → Prop} (hp : PureOk Inv) {p : Program} {e : Env} {s : State} {m : MethodId} {below : List Frame} {meth : Method} {c : Code} (l : Launch) (hflags : l.flags = flags0) {b L : Nat} {xs : Nat → Int32} (hL : L ≤ 3072) (C0 : lw_At p s m meth c b L xs) : W p l e room_1 s m #[Value.ref b] below meth c s.heap [] 0 0 (lw_Z below #[Value.ref b] s) (entryFrame m ([Value.ref b] : List Value).toArray 9) := by
  obtain ⟨D, cy, cx⟩ := entry C0
  obtain ⟨hx, hb, hr, hml, hown, hts, hX, hbl, hlocks, hgv⟩ := id C0
  have hst : l.stackTraces = false := by
    unfold Launch.stackTraces
    rw [hflags]
    decide +kernel
  have hbA : ¬ (fun q : Nat => s.heap.size ≤ q) b := Nat.not_le.mpr hbl
  have hd0 := Drawn.sameBut.refl s.drawn lw_cs
  have hl := lv_entry ([.ref b]) (n := 9) (Nat.le_of_ble_eq_true rfl)
  rw [lg_entry_eq]
  generalize (lg_sl ([.ref b]) ++ List.replicate (9 - (lg_sl ([.ref b])).length) Slot.unset).toArray = ls at hl ⊢
  have hl : lv_has ls 9 [(0, .ref b)] := hl
  have w : wd D cy G00 M00 (fun q : Nat => s.heap.size ≤ q) s.heap s.heap [] := ⟨(fun k q h => by cases h), ⟨(fun i j p q h => by cases h), (fun k q h => by cases h)⟩, va_S.rf⟩
  refine ls_start (G := G00) (M := M00) cx w hl hp.1 (fun G1 M1 x mm o H1 locs1 ls1 hI hL1 hK1 hL2 hK2 hL3 hK3 cx1 w1 hl1 => ?_)
  refine law_loop (Inv := Inv x mm o) hst hL ⟨hX, hbl, hbA⟩ (fun j G M d c1 c2 c3 c4 c5 hj hI hG => hp.2 x mm o j G M d c1 c2 c3 c4 c5 hj hI hG) (fun G M H locs ls k n hk hn cx2 w2 => ?_) 512 0 0 G1 M1 H1 locs1 ls1 rfl rfl hI cx1 w1 hL1 hK1 hL2 hK2 hL3 hK3 hl1
  refine va_forget (fun q hq => w2.2.2.2.2 q hq) ?_
  refine W.widen (k := 601024) (n := 7293034) hk hn ?_
  exact W.base (lw_ret hd0 hx hb hr hlocks dL_law_1396)
