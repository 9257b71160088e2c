/-! the law from its entry, out of a statement about the words alone -/
def LawOk : Prop := ∀ D : va_G, xL D ≤ 260 → n_L_law D G00 M00 (fun _ _ _ => True)
theorem start_of (hp : LawOk) {p : Program} {e : Env} {s : State} {m : MethodId} {below : List Frame} {meth : Method} {c : Code} (l : Launch) {b L : Nat} {xs : Nat → Int32} (hL : L ≤ 260) (C0 : lw_At p s m meth c b L xs) : W p l e room_1 s m #[Value.ref b] below meth c s.heap [] 0 0 (lw_Z below #[Value.ref b] s) (entryFrame m ([Value.ref b] : List Value).toArray 29) := by
  obtain ⟨D, cy, ⟨e1, e2, e3⟩, cx⟩ := entry C0
  obtain ⟨hx, hb, hr, hml, hown, hts, hX, hbl, hlocks, hgv⟩ := id C0
  have hd0 := Drawn.sameBut.refl s.drawn lw_cs
  have hl := lv_entry ([.ref b]) (n := 29) (Nat.le_of_ble_eq_true rfl)
  rw [lg_entry_eq]
  generalize (lg_sl ([.ref b]) ++ List.replicate (29 - (lg_sl ([.ref b])).length) Slot.unset).toArray = ls at hl ⊢
  have hl : lv_has ls 29 [(0, .ref (stX D))] := by rw [e1]; exact hl
  have w : wd D cy G00 M00 (fun q : Nat => s.heap.size ≤ q) s.heap s.heap [] := ⟨(fun k q h => by cases h), ⟨(fun i j p q h => by cases h), (fun k q h => by cases h)⟩, va_S.rf⟩
  refine kn_L_law (fun u G M H locs ls pc _ hu hdg w2 => ?_) cx w hl (hp D (by rw [e2]; exact hL))
  refine va_forget (fun q hq => w2.2.2.2.2 q hq) ?_
  refine W.widen (k := 600086) (n := 7301441) hu.1 hu.2 ?_
  exact W.base (lw_ret hd0 hx hb hr hlocks hdg)
