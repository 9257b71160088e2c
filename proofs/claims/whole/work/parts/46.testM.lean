/-! the reference: meetings, tests -/
section MeetM
variable {G : gS} {ad : Nat → Nat} {M : mS} {s : Nat} {Y : aY} {c : Nat → Nat}
theorem pl_eq {A B : aA} (h : vA A) (g : vA B) : pl_ A = pl_ B ↔ an_x A = an_x B ∧ an_y A = an_y B := by
  have h1 := h.2.1
  have h2 := g.2.1
  unfold pl_
  omega
theorem m_isAt (hS : SSh G ad s) {n : Nat} {a : Nat → aA} (hn : n ≤ 6) (hv : ∀ i, i < n → vA (a i)) (ha : mYa ad M s n a) {i j : Nat} (hi : i < n) (hj : j < n) : p_cl (m_X11_isAt G M (ad s) (zn i) (zn j)) (fun M' r => M' = M ∧ r = if pl_ (a i) = pl_ (a j) then 1 else 0) := by
  have vi := hv i hi
  have vj := hv j hj
  have e1 : (zn (an_x (a i)) = zn (an_x (a j))) ↔ an_x (a i) = an_x (a j) := zn_inj (by have := vi.2.1; omega) (by have := vj.2.1; omega)
  have e2 : (zn (an_y (a i)) = zn (an_y (a j))) ↔ an_y (a i) = an_y (a j) := zn_inj (by have := vi.2.2.1; omega) (by have := vj.2.2.1; omega)
  have e := pl_eq vi vj
  unfold m_X11_isAt
  refine c_rf (s6 hS) (c_ix (by rw [sn3 hS]; exact zn_in (by omega) (by decide)) (c_rf (s6 hS) (c_ix (by rw [sn3 hS]; exact zn_in (by omega) (by decide)) ?_)))
  rw [zn_nat (by omega), zn_nat (by omega), (ha i hi).1, (ha j hj).1]
  refine c_if (fun g => ?_) (fun g => ?_)
  · refine c_rf (s7 hS) (c_ix (by rw [sn4 hS]; exact zn_in (by omega) (by decide)) (c_rf (s7 hS) (c_ix (by rw [sn4 hS]; exact zn_in (by omega) (by decide)) ?_)))
    rw [(ha i hi).2.1, (ha j hj).2.1]
    refine c_if (fun g2 => ?_) (fun g2 => ?_)
    · exact c_ck (Or.inr rfl) (c_some ⟨rfl, by rw [if_pos (e.mpr ⟨e1.mp g, e2.mp g2⟩)]⟩)
    · unfold m_X11_isAt_34
      exact c_ck (Or.inl rfl) (c_some ⟨rfl, by rw [if_neg (fun h => g2 (e2.mpr (e.mp h).2))]⟩)
  · unfold m_X11_isAt_34
    exact c_ck (Or.inl rfl) (c_some ⟨rfl, by rw [if_neg (fun h => g (e1.mpr (e.mp h).1))]⟩)
theorem m_meB_loop (hS : SSh G ad s) (hK : KSh G ad) {n : Nat} {a : Nat → aA} (hn : n ≤ 6) (hv : ∀ i, i < n → vA (a i)) (hN : mN ad M n) (ha : mYa ad M s n a) {i : Nat} (hi : i < n) : ∀ (d j f : Nat), j + d = n → d < f → (∀ k, k < j → ¬ (k ≠ i ∧ pl_ (a k) = pl_ (a i))) → p_cl (m_X11_meets_2 G (ad s) (zn i) f M (zn j)) (fun M' r => M' = M ∧ r = if meB a n i then 1 else 0) := by
  intro d
  induction d with
  | zero =>
    intro j f hj hf hno
    obtain ⟨f, rfl⟩ : ∃ g, f = g + 1 := ⟨f - 1, by omega⟩
    rw [m_X11_meets_2]
    refine c_rf (s15 hS) (c_rf hK ?_)
    rw [hN]
    refine c_t (by rw [show j = n by omega]; exact Int32.le_refl _) (c_ck (Or.inl rfl) (c_some ⟨rfl, ?_⟩))
    rw [if_neg]
    intro h
    obtain ⟨k, k1, k2⟩ := meB_t.mp h
    exact hno k (by omega) k2
  | succ d ih =>
    intro j f hj hf hno
    obtain ⟨f, rfl⟩ : ∃ g, f = g + 1 := ⟨f - 1, by omega⟩
    have go : (j = i ∨ pl_ (a j) ≠ pl_ (a i)) → p_cl (m_X11_meets_32 G (ad s) (zn i) (fun M v2 => m_X11_meets_2 G (ad s) (zn i) f M v2) M (zn j)) (fun M' r => M' = M ∧ r = if meB a n i then 1 else 0) := by
      intro h
      unfold m_X11_meets_32
      refine c_bd ?_
      dsimp only
      rw [zn_one]
      refine ih (j + 1) f (by omega) (by omega) (fun k hk hq => ?_)
      by_cases e : k = j
      · subst e
        rcases h with h | h
        · exact hq.1 h
        · exact h hq.2
      · exact hno k (by omega) hq
    rw [m_X11_meets_2]
    refine c_rf (s15 hS) (c_rf hK ?_)
    rw [hN]
    refine c_f (by rw [zn_le (by omega) (by omega)]; omega) ?_
    refine c_if (fun e => ?_) (fun e => ?_)
    · rw [zn_inj (by omega) (by omega)] at e
      exact go (Or.inl e)
    · rw [zn_inj (by omega) (by omega)] at e
      refine c_clm (m_isAt hS hn hv ha hi (show j < n by omega)) ?_
      rintro M1 r ⟨rfl, rfl⟩
      by_cases g : pl_ (a i) = pl_ (a j)
      · rw [if_pos g]
        refine c_f (by decide) (c_ck (Or.inr rfl) (c_some ⟨rfl, ?_⟩))
        rw [if_pos (meB_t.mpr ⟨j, by omega, e, g.symm⟩)]
      · rw [if_neg g]
        exact c_t rfl (go (Or.inr (fun h => g h.symm)))
theorem m_meets (hS : SSh G ad s) (hK : KSh G ad) {b : Nat} (hv : vY b Y) (hN : mN ad M (yd_n Y)) (hc : mY ad M s Y) {i : Nat} (hi : i < yd_n Y) : m_X11_meets G M (ad s) (zn i) = some (M, if meB (yd_a Y) (yd_n Y) i then 1 else 0) :=
  cl_eq (m_meB_loop hS hK hv.2.1 (fun i hi => (hv.2.2 i hi).1) hN hc.2.2 hi (yd_n Y) 0 fu (by omega) (by have := hv.2.1; unfold fu; omega) (fun k hk => by omega))
end MeetM
/-- the reference's word for an operation -/
def mc : Nat → Nat
  | 3 => 42
  | 220 => 20
  | 221 => 21
  | 222 => 22
  | 223 => 23
  | 224 => 24
  | 226 => 26
  | 227 => 27
  | 225 => 25
  | 4 => 43
  | 228 => 28
  | 43 => 44
  | 45 => 45
  | 42 => 46
  | 47 => 47
  | 60 => 48
  | 62 => 49
  | 61 => 51
  | 128 => 52
  | 129 => 53
  | 229 => 29
  | 230 => 30
  | 231 => 31
  | 232 => 32
  | _ => 0
def enc (o : aO) : List Int32 := if opc o.1 = 2 ∨ 5 ≤ opc o.1 then [zn (mc o.1)] else [zn (mc o.1), o.2]
def encL : List aO → List Int32
  | [] => []
  | o :: L => enc o ++ encL L
theorem encL_app {L1 L2 : List aO} : encL (L1 ++ L2) = encL L1 ++ encL L2 := by
  induction L1 with
  | nil => rfl
  | cons o L ih => show enc o ++ encL (L ++ L2) = (enc o ++ encL L) ++ encL L2; rw [ih, List.append_assoc]
def MS (ad : Nat → Nat) (M : mS) (s : Nat) (S : List Int32) : Prop := ∀ j, j < S.length → mI M (ad (s + 11)) (S.length - 1 - j) = S.getD j 0
def LSh (G : gS) (ad : Nat → Nat) (l : Nat) : Prop := (gP G (ad l) 1 = some (ad (l + 1)) ∧ gP G (ad l) 2 = some (ad (l + 2)) ∧ gP G (ad l) 5 = some (ad (l + 3)) ∧ gP G (ad l) 6 = some (ad (l + 4)) ∧ gP G (ad l) 7 = some (ad (l + 5)) ∧ gP G (ad l) 8 = some (ad (l + 6)) ∧ gP G (ad l) 9 = some (ad (l + 7)) ∧ gP G (ad l) 10 = some (ad (l + 8)) ∧ gP G (ad l) 13 = some (ad (l + 9)) ∧ gP G (ad l) 14 = some (ad (l + 10)) ∧ gP G (ad l) 15 = some (ad (l + 11)) ∧ gP G (ad l) 16 = some (ad (l + 12)) ∧ gP G (ad l) 17 = some (ad (l + 13)) ∧ gP G (ad l) 18 = some (ad (l + 14)) ∧ gP G (ad l) 20 = some (ad (l + 15))) ∧ gN G (ad (l + 1)) = 5 ∧ gN G (ad (l + 2)) = 30 ∧ gN G (ad (l + 3)) = 3 ∧ gN G (ad (l + 4)) = 6 ∧ gN G (ad (l + 5)) = 6 ∧ gN G (ad (l + 6)) = 6 ∧ gN G (ad (l + 7)) = 6 ∧ gN G (ad (l + 8)) = 4096 ∧ gN G (ad (l + 9)) = 20 ∧ gN G (ad (l + 10)) = 20 ∧ gN G (ad (l + 11)) = 20 ∧ gN G (ad (l + 12)) = 21 ∧ gN G (ad (l + 13)) = 21 ∧ gN G (ad (l + 14)) = 800 ∧ gN G (ad (l + 15)) = 400
section ShapeL
variable {G : gS} {ad : Nat → Nat} {l : Nat}
theorem l1 (h : LSh G ad l) : gP G (ad l) 1 = some (ad (l + 1)) := h.1.1
theorem l2 (h : LSh G ad l) : gP G (ad l) 2 = some (ad (l + 2)) := h.1.2.1
theorem l5 (h : LSh G ad l) : gP G (ad l) 5 = some (ad (l + 3)) := h.1.2.2.1
theorem l6 (h : LSh G ad l) : gP G (ad l) 6 = some (ad (l + 4)) := h.1.2.2.2.1
theorem l7 (h : LSh G ad l) : gP G (ad l) 7 = some (ad (l + 5)) := h.1.2.2.2.2.1
theorem l8 (h : LSh G ad l) : gP G (ad l) 8 = some (ad (l + 6)) := h.1.2.2.2.2.2.1
theorem l9 (h : LSh G ad l) : gP G (ad l) 9 = some (ad (l + 7)) := h.1.2.2.2.2.2.2.1
theorem l10 (h : LSh G ad l) : gP G (ad l) 10 = some (ad (l + 8)) := h.1.2.2.2.2.2.2.2.1
theorem l13 (h : LSh G ad l) : gP G (ad l) 13 = some (ad (l + 9)) := h.1.2.2.2.2.2.2.2.2.1
theorem l14 (h : LSh G ad l) : gP G (ad l) 14 = some (ad (l + 10)) := h.1.2.2.2.2.2.2.2.2.2.1
theorem l15 (h : LSh G ad l) : gP G (ad l) 15 = some (ad (l + 11)) := h.1.2.2.2.2.2.2.2.2.2.2.1
theorem l16 (h : LSh G ad l) : gP G (ad l) 16 = some (ad (l + 12)) := h.1.2.2.2.2.2.2.2.2.2.2.2.1
theorem l17 (h : LSh G ad l) : gP G (ad l) 17 = some (ad (l + 13)) := h.1.2.2.2.2.2.2.2.2.2.2.2.2.1
theorem l18 (h : LSh G ad l) : gP G (ad l) 18 = some (ad (l + 14)) := h.1.2.2.2.2.2.2.2.2.2.2.2.2.2.1
theorem l20 (h : LSh G ad l) : gP G (ad l) 20 = some (ad (l + 15)) := h.1.2.2.2.2.2.2.2.2.2.2.2.2.2.2
theorem ln1 (h : LSh G ad l) : gN G (ad (l + 1)) = 5 := h.2.1
theorem ln2 (h : LSh G ad l) : gN G (ad (l + 2)) = 30 := h.2.2.1
theorem ln3 (h : LSh G ad l) : gN G (ad (l + 3)) = 3 := h.2.2.2.1
theorem ln4 (h : LSh G ad l) : gN G (ad (l + 4)) = 6 := h.2.2.2.2.1
theorem ln5 (h : LSh G ad l) : gN G (ad (l + 5)) = 6 := h.2.2.2.2.2.1
theorem ln6 (h : LSh G ad l) : gN G (ad (l + 6)) = 6 := h.2.2.2.2.2.2.1
theorem ln7 (h : LSh G ad l) : gN G (ad (l + 7)) = 6 := h.2.2.2.2.2.2.2.1
theorem ln8 (h : LSh G ad l) : gN G (ad (l + 8)) = 4096 := h.2.2.2.2.2.2.2.2.1
theorem ln9 (h : LSh G ad l) : gN G (ad (l + 9)) = 20 := h.2.2.2.2.2.2.2.2.2.1
theorem ln10 (h : LSh G ad l) : gN G (ad (l + 10)) = 20 := h.2.2.2.2.2.2.2.2.2.2.1
theorem ln11 (h : LSh G ad l) : gN G (ad (l + 11)) = 20 := h.2.2.2.2.2.2.2.2.2.2.2.1
theorem ln12 (h : LSh G ad l) : gN G (ad (l + 12)) = 21 := h.2.2.2.2.2.2.2.2.2.2.2.2.1
theorem ln13 (h : LSh G ad l) : gN G (ad (l + 13)) = 21 := h.2.2.2.2.2.2.2.2.2.2.2.2.2.1
theorem ln14 (h : LSh G ad l) : gN G (ad (l + 14)) = 800 := h.2.2.2.2.2.2.2.2.2.2.2.2.2.2.1
theorem ln15 (h : LSh G ad l) : gN G (ad (l + 15)) = 400 := h.2.2.2.2.2.2.2.2.2.2.2.2.2.2.2
end ShapeL
section TestM
variable {G : gS} {ad : Nat → Nat} {M : mS} {s : Nat} {Y : aY} {c : Nat → Nat}
theorem MS_push (hA : Inj ad) {S : List Int32} {x : Int32} (h : MS ad M s S) : MS ad (wI M (ad (s + 11)) S.length x) s (x :: S) := by
  intro j hj
  rw [mI_wI, if_pos rfl, upd_at]
  have hj2 : j < S.length + 1 := hj
  match j, hj2 with
  | 0, _ => rw [if_pos (by show S.length + 1 - 1 - 0 = S.length; omega)]; rfl
  | j + 1, hj2 =>
    rw [if_neg (by show ¬ (S.length + 1 - 1 - (j + 1) = S.length); omega)]
    show mI M (ad (s + 11)) (S.length + 1 - 1 - (j + 1)) = S.getD j 0
    rw [show S.length + 1 - 1 - (j + 1) = S.length - 1 - j by omega]
    exact h j (by omega)
theorem MS_pop {S : List Int32} {x : Int32} (h : MS ad M s (x :: S)) : mI M (ad (s + 11)) S.length = x ∧ MS ad M s S := by
  refine ⟨h 0 (Nat.succ_pos _), fun j hj => ?_⟩
  have := h (j + 1) (Nat.succ_lt_succ hj)
  rw [show (x :: S).length - 1 - (j + 1) = S.length - 1 - j by show S.length + 1 - 1 - (j + 1) = _; omega] at this
  exact this
theorem m_both {q : Nat} {x z : Int32} (hq : q = 42 ∨ q = 43 ∨ q = 45 ∨ q = 47 ∨ q = 231 ∨ q = 232 ∨ q = 60 ∨ q = 61 ∨ q = 62 ∨ q = 128 ∨ q = 129 ∨ q = 229 ∨ q = 230) : m_X12_both G M (zn (mc q)) x z = some (M, bv q x z) := by
  have nlt : ∀ {u w : Int32}, ¬ u ≤ w ↔ w < u := fun {u w} => Int32.not_le
  have nle : ∀ {u w : Int32}, ¬ u < w ↔ w ≤ u := fun {u w} => Int32.not_lt
  unfold m_X12_both
  rcases hq with rfl | rfl | rfl | rfl | rfl | rfl | rfl | rfl | rfl | rfl | rfl | rfl | rfl
  · rfl
  · rfl
  · rfl
  · show (if z = 0 then some (M, (0 : Int32)) else o_ck (¬ z = 0) (some (M, x / z))) = some (M, if z = 0 then 0 else x / z)
    by_cases h : z = 0
    · rw [if_pos h, if_pos h]
    · rw [if_neg h, if_neg h]
      unfold o_ck
      rw [if_pos h]
  · rfl
  · rfl
  · show (if z ≤ x then some (M, (0 : Int32)) else some (M, 1)) = some (M, if x < z then 1 else 0)
    by_cases h : x < z
    · rw [if_neg (nlt.mpr h), if_pos h]
    · rw [if_pos (nle.mp h), if_neg h]
  · show (if x = z then some (M, (1 : Int32)) else some (M, 0)) = some (M, if x = z then 1 else 0)
    split <;> rfl
  · show (if x ≤ z then some (M, (0 : Int32)) else some (M, 1)) = some (M, if z < x then 1 else 0)
    by_cases h : z < x
    · rw [if_neg (nlt.mpr h), if_pos h]
    · rw [if_pos (nle.mp h), if_neg h]
  · show (if z < x then some (M, (0 : Int32)) else some (M, 1)) = some (M, if x ≤ z then 1 else 0)
    by_cases h : x ≤ z
    · rw [if_neg (nle.mpr h), if_pos h]
    · rw [if_pos (nlt.mp h), if_neg h]
  · show (if x < z then some (M, (0 : Int32)) else some (M, 1)) = some (M, if z ≤ x then 1 else 0)
    by_cases h : z ≤ x
    · rw [if_neg (nle.mpr h), if_pos h]
    · rw [if_pos (nlt.mp h), if_neg h]
  · rfl
  · rfl
theorem m_pushed (hS : SSh G ad s) (hK : KSh G ad) {b : Nat} (hv : vY b Y) (hb : b < 1000000000) (hN : mN ad M (yd_n Y)) (hc : mY ad M s Y) {q : Nat} {v : Int32} (hq : q = 3 ∨ q = 222 ∨ q = 223 ∨ q = 224 ∨ q = 226 ∨ q = 227) (hi : q ≠ 3 → ¬ v < 0 ∧ v.toNatClampNeg < yd_n Y) : p_cl (m_X11_pushed G M (ad s) (zn (mc q)) v) (fun M' r => M' = M ∧ r = pv Y q v) := by
  have hn := hv.2.1
  have hant : q ≠ 3 → ∃ i, v = zn i ∧ i < yd_n Y ∧ (zn i).toNatClampNeg = i := by
    intro h
    obtain ⟨h1, h2⟩ := hi h
    obtain ⟨i, hi2, rfl⟩ := I32_nat h1
    rw [zn_nat hi2] at h2
    exact ⟨i, rfl, h2, zn_nat hi2⟩
  unfold m_X11_pushed
  rcases hq with rfl | rfl | rfl | rfl | rfl | rfl
  · exact c_f (by decide) (c_f (by decide) (c_f (by decide) (c_f (by decide) (c_t rfl (c_some ⟨rfl, rfl⟩)))))
  · obtain ⟨i, rfl, h2, h3⟩ := hant (by decide)
    refine c_t rfl (c_rf (s6 hS) (c_ix (by rw [sn3 hS]; exact zn_in (by omega) (by decide)) (c_some ⟨rfl, ?_⟩)))
    rw [h3, (hc.2.2 i h2).1]
    show _ = zn (an_x (yd_a Y (zn i).toNatClampNeg))
    rw [h3]
  · obtain ⟨i, rfl, h2, h3⟩ := hant (by decide)
    refine c_f (by decide) (c_t rfl (c_rf (s7 hS) (c_ix (by rw [sn4 hS]; exact zn_in (by omega) (by decide)) (c_some ⟨rfl, ?_⟩))))
    rw [h3, (hc.2.2 i h2).2.1]
    show _ = zn (an_y (yd_a Y (zn i).toNatClampNeg))
    rw [h3]
  · obtain ⟨i, rfl, h2, h3⟩ := hant (by decide)
    refine c_f (by decide) (c_f (by decide) (c_t rfl ?_))
    rw [m_per hS (by omega) (hv.2.2 i h2).1 (by have := (hv.2.2 i h2).2; omega) (hc.2.2 i h2)]
    refine c_cl (c_some (c_some ⟨rfl, ?_⟩))
    show _ = zn (anP (yd_a Y (zn i).toNatClampNeg))
    rw [h3]
  · obtain ⟨i, rfl, h2, h3⟩ := hant (by decide)
    refine c_f (by decide) (c_f (by decide) (c_f (by decide) (c_t rfl ?_)))
    rw [m_meets hS hK hv hN hc h2]
    have e3 : pv Y 226 (zn i) = if meB (yd_a Y) (yd_n Y) i then 1 else 0 := by
      show (if meB (yd_a Y) (yd_n Y) (zn i).toNatClampNeg then (1 : Int32) else 0) = _
      rw [h3]
    rw [e3]
    refine c_cl (c_some ?_)
    cases meB (yd_a Y) (yd_n Y) i with
    | true => exact c_f (by decide) (c_some ⟨rfl, rfl⟩)
    | false => exact c_t (by decide) (c_some ⟨rfl, rfl⟩)
  · obtain ⟨i, rfl, h2, h3⟩ := hant (by decide)
    refine c_f (by decide) (c_f (by decide) (c_f (by decide) (c_f (by decide) (c_f (by decide) (c_rf (s9 hS) (c_ix (by rw [sn6 hS]; exact zn_in (by omega) (by decide)) (c_some ⟨rfl, ?_⟩)))))))
    rw [h3, (hc.2.2 i h2).2.2.2.1]
    show _ = zn (1 - an_w (yd_a Y (zn i).toNatClampNeg))
    rw [h3]
theorem zn_top {k : Nat} : zn (k + 1) - 1 = zn k := zn_sub (a := k + 1) (b := 1) (by omega)
theorem m_isIn {v lo hi : Int32} : m_X12_isIn G M v lo hi = some (M, if v < lo ∨ hi < v then 0 else 1) := by
  refine cl_eq ?_
  unfold m_X12_isIn m_X12_isIn_14
  refine c_if (fun g => c_ck (Or.inl rfl) (c_some ⟨rfl, by rw [if_pos (Or.inl g)]⟩)) (fun g => c_if (fun g2 => c_ck (Or.inl rfl) (c_some ⟨rfl, by rw [if_pos (Or.inr g2)]⟩)) (fun g2 => c_ck (Or.inr rfl) (c_some ⟨rfl, by rw [if_neg (fun h => h.elim g g2)]⟩)))
theorem m_isPushed {q : Nat} (hq : q < 900) : m_X12_isPushed G M (zn q) = some (M, if q = 42 ∨ q = 22 ∨ q = 23 ∨ q = 24 ∨ q = 26 ∨ q = 27 then 1 else 0) := by
  have e42 : (zn q = 42) ↔ q = 42 := zn_inj (b := 42) (by omega) (by decide)
  have e26 : (zn q = 26) ↔ q = 26 := zn_inj (b := 26) (by omega) (by decide)
  have e27 : (zn q = 27) ↔ q = 27 := zn_inj (b := 27) (by omega) (by decide)
  have g1 : (zn q < 22) ↔ q < 22 := zn_lt (b := 22) (by omega) (by decide)
  have g2 : ((24 : Int32) < zn q) ↔ 24 < q := zn_lt (a := 24) (by decide) (by omega)
  refine cl_eq ?_
  unfold m_X12_isPushed m_X12_isPushed_29
  rw [m_isIn]
  refine c_if (fun h1 => c_ck (Or.inr rfl) (c_some ⟨rfl, ?_⟩)) (fun h1 => c_cl (c_some ?_))
  · rw [if_pos (Or.inl (e42.mp h1))]
  · by_cases h2 : zn q < 22 ∨ (24 : Int32) < zn q
    · rw [if_pos h2]
      rw [g1, g2] at h2
      refine c_t rfl (c_if (fun h3 => c_ck (Or.inr rfl) (c_some ⟨rfl, ?_⟩)) (fun h3 => c_if (fun h4 => c_ck (Or.inr rfl) (c_some ⟨rfl, ?_⟩)) (fun h4 => c_ck (Or.inl rfl) (c_some ⟨rfl, ?_⟩))))
      · rw [e26] at h3
        rw [if_pos (by omega)]
      · rw [e27] at h4
        rw [if_pos (by omega)]
      · rw [e26] at h3
        rw [e27] at h4
        rw [e42] at h1
        rw [if_neg (by omega)]
    · rw [if_neg h2]
      rw [g1, g2] at h2
      refine c_f (by decide) (c_ck (Or.inr rfl) (c_some ⟨rfl, ?_⟩))
      rw [if_pos (by omega)]
theorem m_isIn63 {v : Int32} : m_X12_isIn G M v 0 63 = some (M, if v < 0 ∨ 64 ≤ v then 0 else 1) := by
  rw [m_isIn]
  by_cases h1 : v < 0
  · rw [if_pos (Or.inl h1), if_pos (Or.inl h1)]
  · obtain ⟨i, hi, rfl⟩ := I32_nat h1
    have g1 : ((63 : Int32) < zn i) ↔ 63 < i := zn_lt (a := 63) (by decide) hi
    have g2 : ((64 : Int32) ≤ zn i) ↔ 64 ≤ i := zn_le (a := 64) (by decide) hi
    by_cases h2 : 63 < i
    · rw [if_pos (Or.inr (g1.mpr h2)), if_pos (Or.inr (g2.mpr (by omega)))]
    · rw [if_neg (fun h => h.elim h1 (fun q => h2 (g1.mp q))), if_neg (fun h => h.elim h1 (fun q => h2 (by have := g2.mp q; omega)))]
end TestM
