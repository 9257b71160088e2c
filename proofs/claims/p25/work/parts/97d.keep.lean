/-! texts in the making and the hand's yard beside each other -/
section TbK
variable {G G' : gS} {M M' : mS} {rl rl' : Nat → Nat} {r a v cap x s : Nat} {L : List Nat}
theorem TB_cg (h : TB G M rl r a v cap L) (hk : ∀ y, y ∈ gL G → (rl y = r ∨ rl y = r + 1) → y ∈ gL G' ∧ gN G' y = gN G y ∧ gP G' y = gP G y ∧ mI M' y = mI M y ∧ rl' y = rl y) : TB G' M' rl' r a v cap L := by
  obtain ⟨⟨a1, a2⟩, ⟨v1, v2, v3, v4⟩, c0, l0, lc, c6, by0, tx⟩ := h
  obtain ⟨k1, k2, k3, k4, k5⟩ := hk a a1 (Or.inl a2)
  obtain ⟨j1, j2, j3, j4, j5⟩ := hk v v2 (Or.inr v3)
  exact ⟨⟨k1, k5.trans a2⟩, ⟨by rw [k3]; exact v1, j1, j5.trans v3, j2.trans v4⟩, by rw [k4]; exact c0, by rw [k4]; exact l0, lc, c6, fun k hk => by rw [j4]; exact by0 k hk, fun k hk => by rw [j4]; exact tx k hk⟩
theorem TB_nw {k n : Nat} (h : TB G M rl r a v cap L) (hx : x ∉ gL G) : TB (gNw G x k n) (wZ M x) (rU rl x s) r a v cap L := TB_cg h (fun y hy _ => by
  have ne := mem_ne hy hx
  exact ⟨List.mem_append_left _ hy, up_ne ne, up_ne ne, wZ_ne ne, rU_ne ne⟩)
theorem TB_w {j : Nat} {w : Int32} (h : TB G M rl r a v cap L) (h1 : rl x ≠ r) (h2 : rl x ≠ r + 1) : TB G (wI M x j w) rl r a v cap L := TB_cg h (fun y hy hr => by
  have ne : y ≠ x := fun e => hr.elim (fun z => h1 (e ▸ z)) (fun z => h2 (e ▸ z))
  exact ⟨hy, rfl, rfl, mI_ne ne, rfl⟩)
theorem TB_st {j y : Nat} (h : TB G M rl r a v cap L) (h1 : rl x ≠ r) (h2 : rl x ≠ r + 1) : TB (gSt G x j y) M rl r a v cap L := TB_cg h (fun z hz hr => by
  have ne : z ≠ x := fun e => hr.elim (fun q => h1 (e ▸ q)) (fun q => h2 (e ▸ q))
  exact ⟨hz, rfl, gSt_ne ne, rfl, rfl⟩)
theorem TB_ru (h : TB G M rl r a v cap L) (h1 : rl x ≠ r) (h2 : rl x ≠ r + 1) : TB G M (rU rl x s) r a v cap L := TB_cg h (fun z hz hr => by
  have ne : z ≠ x := fun e => hr.elim (fun q => h1 (e ▸ q)) (fun q => h2 (e ▸ q))
  exact ⟨hz, rfl, rfl, rfl, rU_ne ne⟩)
theorem TB_kp (h : TB G M rl r a v cap L) (hr : 10000 ≤ r) (k : Kp G M rl G' M' rl') : TB G' M' rl' r a v cap L := TB_cg h (fun y hy h2 => by
  obtain ⟨k1, k2, k3, k4, k5⟩ := k y hy
  have ns : ¬ Si rl y := fun z => by unfold Si at z; omega
  exact ⟨k1, k3, (k5 ns).1, (k5 ns).2.1, k4⟩)
theorem TB_wi {n : Nat} (h : TB G M rl r a v cap L) (hx : x ∉ gL G) (eL : gL G' = gL G ++ [x]) (eN : gN G' = va_up (gN G) x n) (eP : ∀ z, z ≠ x → gP G' z = gP G z) : TB G' (wZ M x) (rU rl x s) r a v cap L := TB_cg h (fun y hy _ => by
  have ne := mem_ne hy hx
  exact ⟨by rw [eL]; exact List.mem_append_left _ hy, by rw [eN]; exact up_ne ne, eP y ne, wZ_ne ne, rU_ne ne⟩)
/-- what an append keeps -/
def KS (r : Nat) (I : gS → mS → (Nat → Nat) → Prop) : Prop := ∀ G M rl G' M' rl', Kt r G M rl G' M' rl' → I G M rl → I G' M' rl'
theorem KS_and {I J : gS → mS → (Nat → Nat) → Prop} (h : KS r I) (h2 : KS r J) : KS r (fun G M rl => I G M rl ∧ J G M rl) := fun G M rl G' M' rl' k z => ⟨h G M rl G' M' rl' k z.1, h2 G M rl G' M' rl' k z.2⟩
theorem KS_SM {o : Nat} {S : sA} {P : aP} {q : Nat → Nat → Nat} {Y : aY} (hb : SGb P (yd_n Y)) (hr : 10000 ≤ r) : KS r (fun G M rl => SM G M rl o S P q Y) := fun G M rl G' M' rl' k z => SM_cg hb z (fun x hx hs => by
  obtain ⟨k1, k2, k3, k4, k5⟩ := k x hx
  unfold Si at hs
  exact ⟨k1, k2, k3, (k5 (by omega) (by omega)).1, k4⟩) (fun x hx hs => by
  obtain ⟨k1, k2, k3, k4, k5⟩ := k x hx
  unfold Si at hs
  exact (k5 (by omega) (by omega)).2.1)
theorem KS_TB {r2 : Nat} (h1 : r2 ≠ r) (h2 : r2 ≠ r + 1) (h3 : r2 + 1 ≠ r) : KS r (fun G M rl => TB G M rl r2 a v cap L) := fun G M rl G' M' rl' k z => TB_cg z (fun y hy hr => by
  obtain ⟨k1, k2, k3, k4, k5⟩ := k y hy
  obtain ⟨p1, p2, _⟩ := k5 (by omega) (by omega)
  exact ⟨k1, k3, p1, p2, k4⟩)
theorem KS_PS {s q w : Nat} {S : List Nat} (h1 : s ≠ r) (h2 : s ≠ r + 1) (h3 : s + 1 ≠ r) : KS r (fun G M rl => PS G M rl s q w S) := fun _ _ _ _ _ _ k z => PS_kt z k h1 h2 h3
/-- a row in the making: x of n places, the first m are f -/
def TR (G : gS) (M : mS) (rl : Nat → Nat) (x n m : Nat) (f : Nat → Nat) : Prop := (x ∈ gL G ∧ gK G x = 12 ∧ rl x = 0 ∧ gN G x = n) ∧ ∀ k, k < m → mI M x k = zn (f k)
theorem KS_TR {n m : Nat} {f : Nat → Nat} (hr : 10000 ≤ r) : KS r (fun G M rl => TR G M rl x n m f) := fun G M rl G' M' rl' k z => by
  obtain ⟨⟨z1, z2, z3, z4⟩, z5⟩ := z
  obtain ⟨k1, k2, k3, k4, k5⟩ := k x z1
  obtain ⟨p1, p2, _⟩ := k5 (by omega) (by omega)
  exact ⟨⟨k1, k2.trans z2, k4.trans z3, k3.trans z4⟩, fun k hk => by rw [p2]; exact z5 k hk⟩
theorem TR_nw {n : Nat} {f : Nat → Nat} (hx : x ∉ gL G) : TR (gNw G x 12 n) (wZ M x) (rU rl x 0) x n 0 f := ⟨⟨gL_nw, gK_nw, rU_eq, gN_nw⟩, fun k hk => absurd hk (Nat.not_lt_zero k)⟩
theorem TR_nwo {n m y k l t : Nat} {f : Nat → Nat} (h : TR G M rl x n m f) (hy : y ∉ gL G) : TR (gNw G y k l) (wZ M y) (rU rl y t) x n m f := by
  obtain ⟨⟨z1, z2, z3, z4⟩, z5⟩ := h
  have ne := mem_ne z1 hy
  exact ⟨⟨List.mem_append_left _ z1, (up_ne ne).trans z2, (rU_ne ne).trans z3, (up_ne ne).trans z4⟩, fun k hk => by rw [wZ_ne ne]; exact z5 k hk⟩
/-- one place more -/
theorem TR_w {n m : Nat} {f : Nat → Nat} {c : Int32} (h : TR G M rl x n m f) (hw : c = zn (f m)) : TR G (wI M x m c) rl x n (m + 1) f := by
  refine ⟨h.1, fun k hk => ?_⟩
  rw [mI_eq]
  by_cases e : k = m
  · rw [if_pos e, e, hw]
  · rw [if_neg e]; exact h.2 k (by omega)
/-- a place again -/
theorem TR_w2 {n m j : Nat} {f g : Nat → Nat} {c : Int32} (h : TR G M rl x n m f) (hw : c = zn (g j)) (hg : ∀ k, k < m → k ≠ j → g k = f k) : TR G (wI M x j c) rl x n m g := by
  refine ⟨h.1, fun k hk => ?_⟩
  rw [mI_eq]
  by_cases e : k = j
  · rw [if_pos e, e, hw]
  · rw [if_neg e, hg k hk e]; exact h.2 k hk
theorem TR_f {n m : Nat} {f g : Nat → Nat} (h : TR G M rl x n m f) (hg : ∀ k, k < m → g k = f k) : TR G M rl x n m g := ⟨h.1, fun k hk => by rw [hg k hk]; exact h.2 k hk⟩
end TbK
/-- what is used: cells c, slots d and the builder's own -/
def UB (c d : Nat) (u : uS) (cap len : Nat) : Prop := u.1 ≤ c ∧ u.2 ≤ d + 2 * cap ∧ 16 ≤ cap ∧ cap ≤ 2 * len + 16 ∧ len ≤ 40 * c
theorem UB_mono {c d c' d' : Nat} {u : uS} {cap len : Nat} (h : UB c d u cap len) (hc : c ≤ c') (hd : d ≤ d') : UB c' d' u cap len := by
  obtain ⟨h1, h2, h3, h4, h5⟩ := h
  exact ⟨by omega, by omega, h3, h4, by omega⟩
theorem UB_p {c d : Nat} {u w : uS} {cap len : Nat} (h : UB c d u cap len) : UB (c + w.1) (d + w.2) (uP u w) cap len := by
  obtain ⟨h1, h2, h3, h4, h5⟩ := h
  exact ⟨by show u.1 + w.1 ≤ c + w.1; omega, by show u.2 + w.2 ≤ d + w.2 + 2 * cap; omega, h3, h4, by omega⟩
theorem UB_le {c d : Nat} {u b : uS} {cap len : Nat} (h : UB c d u cap len) (h1 : c ≤ b.1) (h2 : d + 160 * c + 32 ≤ b.2) : uL u b := by
  obtain ⟨g1, g2, g3, g4, g5⟩ := h
  exact ⟨by omega, by omega⟩
theorem UB_st {c d : Nat} {u b : uS} {cap len : Nat} (hu : UB c d u cap len) {s : Nat} (hs : s ≤ 40) (hb : c < b.1 ∧ d + 160 * c + 200 ≤ b.2) (hc : c < 2000) : uL (uP u (apC cap (len + s))) b ∧ UB (c + 1) d (uP u (apC cap (len + s))) (apN cap (len + s)) (len + s) ∧ len + s < 100000 ∧ cap < 400000 := by
  obtain ⟨u1, u2, c1, c2, l1⟩ := hu
  obtain ⟨b1, b2⟩ := hb
  by_cases e : len + s ≤ cap
  · have eN : apN cap (len + s) = cap := by unfold apN; rw [if_pos e]
    have eC : apC cap (len + s) = (0, 0) := by unfold apC; rw [if_pos e]
    rw [eN, eC]
    exact ⟨⟨by show u.1 + 0 ≤ b.1; omega, by show u.2 + 0 ≤ b.2; omega⟩, ⟨by show u.1 + 0 ≤ c + 1; omega, by show u.2 + 0 ≤ d + 2 * cap; omega, c1, by omega, by omega⟩, by omega, by omega⟩
  · have eN : apN cap (len + s) = if len + s < 2 * cap + 2 then 2 * cap + 2 else len + s := by unfold apN; rw [if_neg e]
    have eC : apC cap (len + s) = (1, apN cap (len + s)) := by unfold apC; rw [if_neg e]
    have hN : 2 * cap + 2 ≤ apN cap (len + s) ∧ apN cap (len + s) ≤ 2 * (len + s) := by
      rw [eN]
      split <;> omega
    rw [eC]
    generalize apN cap (len + s) = N at hN
    exact ⟨⟨by show u.1 + 1 ≤ b.1; omega, by show u.2 + N ≤ b.2; omega⟩, ⟨by show u.1 + 1 ≤ c + 1; omega, by show u.2 + N ≤ d + 2 * N; omega, by omega, by omega, by omega⟩, by omega, by omega⟩
theorem sTx_le : ∀ n : Nat, n < 36 → n ≠ 34 → (sTx n).length ≤ 40 := by decide +kernel
theorem dgL_le {m : Nat} : (dgL m).length ≤ 2 := by
  unfold dgL
  split
  · exact Nat.le_succ 1
  · exact Nat.le_refl 2
section Appends
variable {I : gS → mS → (Nat → Nat) → Prop} {G : gS} {M : mS} {rl : Nat → Nat} {r a v cap c d : Nat} {L : List Nat} {b u : uS} {k : uS → gS → mS → Nat → Prop}
theorem a_lit (hst : KS r I) (hI : I G M rl) (h : TB G M rl r a v cap L) (hu : UB c d u cap L.length) {n m : Nat} (hm : m = n) (hn : n < 36) (hn2 : n ≠ 34) (hb : c < b.1 ∧ d + 160 * c + 200 ≤ b.2) (hc : c < 2000) (hk : ∀ u' G' M' rl' v' cap', I G' M' rl' → TB G' M' rl' r a v' cap' (L ++ sTx n) → UB (c + 1) d u' cap' (L ++ sTx n).length → k u' G' M' a) : q_ca b u (fun w => n_J4_append_15ec4 w G M a m) k := by
  subst hm
  obtain ⟨g1, g2, g3⟩ := UB_st hu (sTx_le m hn hn2) hb hc
  refine ⟨apC cap (L.length + (sTx m).length), g1, j_lit h (str_ok hn) g3.1 g3.2 ⟨Nat.le_refl _, Nat.le_refl _⟩ (fun G' M' rl' v' k1 h1 => hk _ G' M' rl' v' _ (hst _ _ _ _ _ _ k1 hI) h1 ?_)⟩
  rw [List.length_append]
  exact g2
theorem a_int (hst : KS r I) (hI : I G M rl) (h : TB G M rl r a v cap L) (hu : UB c d u cap L.length) {x : Int32} {m : Nat} (hx : x = zn m) (hm : m < 100) (hb : c < b.1 ∧ d + 160 * c + 200 ≤ b.2) (hc : c < 2000) (hk : ∀ u' G' M' rl' v' cap', I G' M' rl' → TB G' M' rl' r a v' cap' (L ++ dgL m) → UB (c + 1) d u' cap' (L ++ dgL m).length → k u' G' M' a) : q_ca b u (fun w => n_J4_append_bf812 w G M a x) k := by
  subst hx
  obtain ⟨g1, g2, g3⟩ := UB_st hu (s := (dgL m).length) (Nat.le_trans dgL_le (by decide)) hb hc
  refine ⟨apC cap (L.length + (dgL m).length), g1, j_int h hm g3.1 g3.2 ⟨Nat.le_refl _, Nat.le_refl _⟩ (fun G' M' rl' v' k1 h1 => hk _ G' M' rl' v' _ (hst _ _ _ _ _ _ k1 hI) h1 ?_)⟩
  rw [List.length_append]
  exact g2
theorem a_pool (hst : KS r I) (hI : I G M rl) (h : TB G M rl r a v cap L) (hu : UB c d u cap L.length) {s q w : Nat} {T : List Nat} (hp : PS G M rl s q w T) (hT : asc T) (hT2 : T.length ≤ 40) (h1 : s ≠ r) (h2 : s ≠ r + 1) (h3 : s + 1 ≠ r) (hb : c < b.1 ∧ d + 160 * c + 200 ≤ b.2) (hc : c < 2000) (hk : ∀ u' G' M' rl' v' cap', I G' M' rl' → TB G' M' rl' r a v' cap' (L ++ T) → UB (c + 1) d u' cap' (L ++ T).length → k u' G' M' a) : q_ca b u (fun w => n_J4_append_15ec4p w G M a q) k := by
  obtain ⟨g1, g2, g3⟩ := UB_st hu hT2 hb hc
  refine ⟨apC cap (L.length + T.length), g1, j_pool h hp hT h1 h2 h3 g3.1 g3.2 ⟨Nat.le_refl _, Nat.le_refl _⟩ (fun G' M' rl' v' k1 h1 => hk _ G' M' rl' v' _ (hst _ _ _ _ _ _ k1 hI) h1 ?_)⟩
  rw [List.length_append]
  exact g2
end Appends
