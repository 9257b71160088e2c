/-! the reference's ants -/
/-- how many of the latest steps in a row were as those so many ahead -/
def rn (h : Nat → Nat) (p : Nat) : Nat → Nat
  | 0 => 0
  | n + 1 => if p ≤ n ∧ h (n - p) = h n then rn h p n + 1 else 0
theorem rn_congr {h g : Nat → Nat} {p : Nat} (hp : 1 ≤ p) : ∀ n : Nat, (∀ k, k < n → h k = g k) → rn h p n = rn g p n := by
  intro n
  induction n with
  | zero => intro _; rfl
  | succ n ih =>
    intro H
    rw [rn, rn, ih (fun k hk => H k (by omega)), H n (by omega)]
    by_cases c : p ≤ n
    · rw [H (n - p) (by omega)]
    · rw [if_neg (fun q => c q.1), if_neg (fun q => c q.1)]
theorem rn_le {h : Nat → Nat} {p : Nat} : ∀ n : Nat, rn h p n ≤ n := by
  intro n
  induction n with
  | zero => exact Nat.le_refl _
  | succ n ih => rw [rn]; split <;> omega
theorem rn_ge {h : Nat → Nat} {p : Nat} : ∀ n m : Nat, m ≤ rn h p n ↔ (m = 0 ∨ m + p ≤ n) ∧ ∀ j, j < m → h (n - (j + 1)) = h (n - (j + 1) - p) := by
  intro n
  induction n with
  | zero =>
    intro m
    show m ≤ 0 ↔ _
    constructor
    · intro hm
      exact ⟨Or.inl (by omega), fun j hj => by omega⟩
    · rintro ⟨h1 | h1, h2⟩
      · omega
      · by_cases hm : m = 0
        · omega
        · omega
  | succ n ih =>
    intro m
    rw [rn]
    match m with
    | 0 => exact ⟨fun _ => ⟨Or.inl rfl, fun j hj => by omega⟩, fun _ => Nat.zero_le _⟩
    | m + 1 =>
      by_cases c : p ≤ n ∧ h (n - p) = h n
      · rw [if_pos c]
        constructor
        · intro hm
          have := (ih m).mp (by omega)
          refine ⟨Or.inr (by rcases this.1 with e | e <;> omega), fun j hj => ?_⟩
          match j with
          | 0 => rw [show n + 1 - (0 + 1) = n by omega]; exact c.2.symm
          | j + 1 =>
            have := this.2 j (by omega)
            rw [show n + 1 - (j + 1 + 1) = n - (j + 1) by omega]
            exact this
        · rintro ⟨h1, h2⟩
          have : m ≤ rn h p n := (ih m).mpr ⟨by rcases h1 with e | e <;> omega, fun j hj => by have := h2 (j + 1) (by omega); rw [show n + 1 - (j + 1 + 1) = n - (j + 1) by omega] at this; exact this⟩
          omega
      · rw [if_neg c]
        constructor
        · intro hm; omega
        · rintro ⟨h1, h2⟩
          exfalso
          have h3 := h2 0 (by omega)
          rw [show n + 1 - (0 + 1) = n by omega] at h3
          exact c ⟨by rcases h1 with e | e <;> omega, h3.symm⟩
theorem rn_per {n : Nat} {h : Nat → Nat} {p : Nat} (p1 : 1 ≤ p) : (2 * p ≤ rn h p n) ↔ (3 * p ≤ n ∧ rpB n h p = true) := by
  rw [rn_ge, rpB_t]
  constructor
  · rintro ⟨h1, h2⟩
    exact ⟨by rcases h1 with e | e <;> omega, h2⟩
  · rintro ⟨h1, h2⟩
    exact ⟨Or.inr (by omega), h2⟩
def SSh (G : gS) (ad : Nat → Nat) (s : Nat) : Prop := (gP G (ad s) 4 = some (ad (s + 1)) ∧ gP G (ad s) 5 = some (ad (s + 2)) ∧ gP G (ad s) 6 = some (ad (s + 3)) ∧ gP G (ad s) 7 = some (ad (s + 4)) ∧ gP G (ad s) 8 = some (ad (s + 5)) ∧ gP G (ad s) 9 = some (ad (s + 6)) ∧ gP G (ad s) 10 = some (ad (s + 7)) ∧ gP G (ad s) 11 = some (ad (s + 8)) ∧ gP G (ad s) 12 = some (ad (s + 9)) ∧ gP G (ad s) 13 = some (ad (s + 10)) ∧ gP G (ad s) 14 = some (ad (s + 11)) ∧ gP G (ad s) 15 = some (ad 70)) ∧ gN G (ad (s + 1)) = 4096 ∧ gN G (ad (s + 2)) = 64 ∧ gN G (ad (s + 3)) = 6 ∧ gN G (ad (s + 4)) = 6 ∧ gN G (ad (s + 5)) = 6 ∧ gN G (ad (s + 6)) = 6 ∧ gN G (ad (s + 7)) = 6 ∧ gN G (ad (s + 8)) = 6 ∧ gN G (ad (s + 9)) = 768 ∧ gN G (ad (s + 10)) = 726 ∧ gN G (ad (s + 11)) = 400
section ShapeS
variable {G : gS} {ad : Nat → Nat} {s : Nat}
theorem s4 (h : SSh G ad s) : gP G (ad s) 4 = some (ad (s + 1)) := h.1.1
theorem s5 (h : SSh G ad s) : gP G (ad s) 5 = some (ad (s + 2)) := h.1.2.1
theorem s6 (h : SSh G ad s) : gP G (ad s) 6 = some (ad (s + 3)) := h.1.2.2.1
theorem s7 (h : SSh G ad s) : gP G (ad s) 7 = some (ad (s + 4)) := h.1.2.2.2.1
theorem s8 (h : SSh G ad s) : gP G (ad s) 8 = some (ad (s + 5)) := h.1.2.2.2.2.1
theorem s9 (h : SSh G ad s) : gP G (ad s) 9 = some (ad (s + 6)) := h.1.2.2.2.2.2.1
theorem s10 (h : SSh G ad s) : gP G (ad s) 10 = some (ad (s + 7)) := h.1.2.2.2.2.2.2.1
theorem s11 (h : SSh G ad s) : gP G (ad s) 11 = some (ad (s + 8)) := h.1.2.2.2.2.2.2.2.1
theorem s12 (h : SSh G ad s) : gP G (ad s) 12 = some (ad (s + 9)) := h.1.2.2.2.2.2.2.2.2.1
theorem s13 (h : SSh G ad s) : gP G (ad s) 13 = some (ad (s + 10)) := h.1.2.2.2.2.2.2.2.2.2.1
theorem s14 (h : SSh G ad s) : gP G (ad s) 14 = some (ad (s + 11)) := h.1.2.2.2.2.2.2.2.2.2.2.1
theorem s15 (h : SSh G ad s) : gP G (ad s) 15 = some (ad 70) := h.1.2.2.2.2.2.2.2.2.2.2.2
theorem sn1 (h : SSh G ad s) : gN G (ad (s + 1)) = 4096 := h.2.1
theorem sn2 (h : SSh G ad s) : gN G (ad (s + 2)) = 64 := h.2.2.1
theorem sn3 (h : SSh G ad s) : gN G (ad (s + 3)) = 6 := h.2.2.2.1
theorem sn4 (h : SSh G ad s) : gN G (ad (s + 4)) = 6 := h.2.2.2.2.1
theorem sn5 (h : SSh G ad s) : gN G (ad (s + 5)) = 6 := h.2.2.2.2.2.1
theorem sn6 (h : SSh G ad s) : gN G (ad (s + 6)) = 6 := h.2.2.2.2.2.2.1
theorem sn7 (h : SSh G ad s) : gN G (ad (s + 7)) = 6 := h.2.2.2.2.2.2.2.1
theorem sn8 (h : SSh G ad s) : gN G (ad (s + 8)) = 6 := h.2.2.2.2.2.2.2.2.1
theorem sn9 (h : SSh G ad s) : gN G (ad (s + 9)) = 768 := h.2.2.2.2.2.2.2.2.2.1
theorem sn10 (h : SSh G ad s) : gN G (ad (s + 10)) = 726 := h.2.2.2.2.2.2.2.2.2.2.1
theorem sn11 (h : SSh G ad s) : gN G (ad (s + 11)) = 400 := h.2.2.2.2.2.2.2.2.2.2.2
end ShapeS
/-- ant i of state s -/
def mA (ad : Nat → Nat) (M : mS) (s i : Nat) (A : aA) : Prop := mI M (ad (s + 3)) i = zn (an_x A) ∧ mI M (ad (s + 4)) i = zn (an_y A) ∧ mI M (ad (s + 5)) i = zn (an_s A) ∧ mI M (ad (s + 6)) i = zn (1 - an_w A) ∧ mI M (ad (s + 7)) i = zn (an_t A) ∧ mI M (ad (s + 8)) i = zn (an_n A) ∧ (∀ k, 1 ≤ k → k ≤ an_n A → k ≤ 128 → mI M (ad (s + 9)) (128 * i + (an_n A - k) % 128) = zn (an_h A (an_n A - k))) ∧ ∀ p, 1 ≤ p → p ≤ 120 → mI M (ad (s + 10)) (121 * i + p) = zn (rn (an_h A) p (an_n A))
theorem mA_Fr {ad : Nat → Nat} (hA : Inj ad) {lo hi : Nat} {M M' : mS} {s i : Nat} {A : aA} (h : mA ad M s i A) (hF : Fr (Bk ad lo hi) M M') (hd : s + 10 < lo ∨ hi ≤ s + 3) : mA ad M' s i A := by
  unfold mA
  rw [Fr_I hA hF (k := s + 3) (by omega), Fr_I hA hF (k := s + 4) (by omega), Fr_I hA hF (k := s + 5) (by omega), Fr_I hA hF (k := s + 6) (by omega), Fr_I hA hF (k := s + 7) (by omega), Fr_I hA hF (k := s + 8) (by omega), Fr_I hA hF (k := s + 9) (by omega), Fr_I hA hF (k := s + 10) (by omega)]
  exact h
/-- what an operation on ant a leaves of the others -/
def Oth (ad : Nat → Nat) (M M' : mS) (s a : Nat) : Prop := (∀ i, i ≠ a → mI M' (ad (s + 3)) i = mI M (ad (s + 3)) i ∧ mI M' (ad (s + 4)) i = mI M (ad (s + 4)) i ∧ mI M' (ad (s + 5)) i = mI M (ad (s + 5)) i ∧ mI M' (ad (s + 6)) i = mI M (ad (s + 6)) i ∧ mI M' (ad (s + 7)) i = mI M (ad (s + 7)) i ∧ mI M' (ad (s + 8)) i = mI M (ad (s + 8)) i) ∧ (∀ k, k < 128 * a ∨ 128 * a + 128 ≤ k → mI M' (ad (s + 9)) k = mI M (ad (s + 9)) k) ∧ ∀ k, k < 121 * a ∨ 121 * a + 121 ≤ k → mI M' (ad (s + 10)) k = mI M (ad (s + 10)) k
theorem Oth_rf {ad : Nat → Nat} {M : mS} {s a : Nat} : Oth ad M M s a := ⟨fun _ _ => ⟨rfl, rfl, rfl, rfl, rfl, rfl⟩, fun _ _ => rfl, fun _ _ => rfl⟩
theorem Oth_tr {ad : Nat → Nat} {M M1 M2 : mS} {s a : Nat} (h : Oth ad M M1 s a) (g : Oth ad M1 M2 s a) : Oth ad M M2 s a := ⟨fun i hi => ⟨(g.1 i hi).1.trans (h.1 i hi).1, (g.1 i hi).2.1.trans (h.1 i hi).2.1, (g.1 i hi).2.2.1.trans (h.1 i hi).2.2.1, (g.1 i hi).2.2.2.1.trans (h.1 i hi).2.2.2.1, (g.1 i hi).2.2.2.2.1.trans (h.1 i hi).2.2.2.2.1, (g.1 i hi).2.2.2.2.2.trans (h.1 i hi).2.2.2.2.2⟩, fun k hk => (g.2.1 k hk).trans (h.2.1 k hk), fun k hk => (g.2.2 k hk).trans (h.2.2 k hk)⟩
theorem mA_oth {ad : Nat → Nat} {M M' : mS} {s a i : Nat} {A : aA} (h : mA ad M s i A) (hO : Oth ad M M' s a) (hi : i ≠ a) : mA ad M' s i A := by
  obtain ⟨h1, h2, h3, h4, h5, h6, h7, h8⟩ := h
  obtain ⟨o1, o2, o3, o4, o5, o6⟩ := hO.1 i hi
  refine ⟨o1.trans h1, o2.trans h2, o3.trans h3, o4.trans h4, o5.trans h5, o6.trans h6, fun k k1 k2 k3 => ?_, fun p p1 p2 => ?_⟩
  · have : (an_n A - k) % 128 < 128 := Nat.mod_lt _ (by decide)
    rw [hO.2.1 _ (by omega)]
    exact h7 k k1 k2 k3
  · rw [hO.2.2 _ (by omega)]
    exact h8 p p1 p2
section AntM
variable {G : gS} {ad : Nat → Nat} {M : mS} {s a : Nat} {A : aA}
theorem m_forget_loop (hA : Inj ad) (hS : SSh G ad s) (ha : a < 6) : ∀ (d p f : Nat) (M : mS), p + d = 121 → d < f → (∀ q, q < p → mI M (ad (s + 10)) (121 * a + q) = 0) → p_cl (m_X11_forget_9 G (ad s) (zn a) f M (zn p)) (fun M' _ => (∀ q, q < 121 → mI M' (ad (s + 10)) (121 * a + q) = 0) ∧ (∀ k, k < 121 * a ∨ 121 * a + 121 ≤ k → mI M' (ad (s + 10)) k = mI M (ad (s + 10)) k) ∧ Fr (Bk ad (s + 10) (s + 11)) M M') := by
  intro d
  induction d with
  | zero =>
    intro p f M hp hf hz
    obtain ⟨f, rfl⟩ : ∃ g, f = g + 1 := ⟨f - 1, by omega⟩
    rw [m_X11_forget_9]
    refine c_t (by rw [show (120 : Int32) = zn 120 from rfl, zn_lt (by omega) (by omega)]; omega) (c_some ⟨fun q hq => hz q (by omega), fun _ _ => rfl, Fr_rf⟩)
  | succ d ih =>
    intro p f M hp hf hz
    obtain ⟨f, rfl⟩ : ∃ g, f = g + 1 := ⟨f - 1, by omega⟩
    rw [m_X11_forget_9]
    have e : (121 : Int32) * zn a + zn p = zn (121 * a + p) := by rw [show (121 : Int32) * zn a = zn (121 * a) from zn_mul 121 a, zn_add]
    rw [e]
    refine c_f (by rw [show (120 : Int32) = zn 120 from rfl, zn_lt (by omega) (by omega)]; omega) (c_rf (s13 hS) (c_ix (by rw [sn10 hS]; exact zn_in (by omega) (by decide)) (c_wI (c_bd ?_))))
    rw [zn_nat (by omega), zn_one]
    have hF : Fr (Bk ad (s + 10) (s + 11)) M (wI M (ad (s + 10)) (121 * a + p) 0) := Fr_wI Fr_rf (Bk_in (by omega) (by omega))
    refine c_mono (ih (p + 1) f _ (by omega) (by omega) (fun q hq => ?_)) ?_
    · rw [mI_wI, if_pos rfl, upd_at]
      split
      · rfl
      · exact hz q (by omega)
    · rintro M' _ ⟨g1, g2, g3⟩
      refine ⟨g1, fun k hk => ?_, Fr_tr hF g3⟩
      rw [g2 k hk, mI_wI, if_pos rfl, upd_at, if_neg (by omega)]
theorem m_forget (hA : Inj ad) (hS : SSh G ad s) (ha : a < 6) : p_cl (m_X11_forget G M (ad s) (zn a)) (fun M' _ => mI M' (ad (s + 8)) = upd (mI M (ad (s + 8))) a 0 ∧ (∀ q, q < 121 → mI M' (ad (s + 10)) (121 * a + q) = 0) ∧ (∀ k, k ≠ s + 8 → k ≠ s + 10 → mI M' (ad k) = mI M (ad k)) ∧ Oth ad M M' s a ∧ Fr (Bk ad (s + 8) (s + 11)) M M') := by
  unfold m_X11_forget
  refine c_rf (s11 hS) (c_ix (by rw [sn8 hS]; exact zn_in ha (by decide)) (c_wI ?_))
  rw [zn_nat (by omega)]
  have hF : Fr (Bk ad (s + 8) (s + 9)) M (wI M (ad (s + 8)) a 0) := Fr_wI Fr_rf (Bk_in (by omega) (by omega))
  refine c_mono (m_forget_loop hA hS ha 121 0 fu _ (by omega) (by unfold fu; omega) (fun q hq => by omega)) ?_
  rintro M' _ ⟨g1, g2, g3⟩
  have e8 : mI M' (ad (s + 8)) = upd (mI M (ad (s + 8))) a 0 := by rw [Fr_I hA g3 (k := s + 8) (by omega), mI_wI, if_pos rfl]
  have ek : ∀ k, k ≠ s + 8 → k ≠ s + 10 → mI M' (ad k) = mI M (ad k) := fun k k1 k2 => by rw [Fr_I hA g3 (by omega), Fr_I hA hF (by omega)]
  refine ⟨e8, g1, ek, ⟨fun i hi => ?_, fun k hk => ?_, fun k hk => ?_⟩, Fr_tr (Fr_sub hF (by omega) (by omega)) (Fr_sub g3 (by omega) (by omega))⟩
  · rw [ek (s + 3) (by omega) (by omega), ek (s + 4) (by omega) (by omega), ek (s + 5) (by omega) (by omega), ek (s + 6) (by omega) (by omega), ek (s + 7) (by omega) (by omega), e8, upd_at, if_neg hi]
    exact ⟨rfl, rfl, rfl, rfl, rfl, rfl⟩
  · rw [ek (s + 9) (by omega) (by omega)]
  · rw [g2 k hk, Fr_I hA hF (k := s + 10) (by omega)]
/-- what is left of the path is nothing -/
theorem mA_none {M' : mS} {s a : Nat} {A : aA} (h0 : an_n A = 0) (h1 : mI M' (ad (s + 3)) a = zn (an_x A)) (h2 : mI M' (ad (s + 4)) a = zn (an_y A)) (h3 : mI M' (ad (s + 5)) a = zn (an_s A)) (h4 : mI M' (ad (s + 6)) a = zn (1 - an_w A)) (h5 : mI M' (ad (s + 7)) a = zn (an_t A)) (h6 : mI M' (ad (s + 8)) a = 0) (h7 : ∀ q, q < 121 → mI M' (ad (s + 10)) (121 * a + q) = 0) : mA ad M' s a A := by
  refine ⟨h1, h2, h3, h4, h5, by rw [h0]; exact h6, fun k k1 k2 => by omega, fun p p1 p2 => ?_⟩
  rw [h0, h7 p (by omega)]
  rfl
theorem zn_128 {a b : Nat} (hb : b < 2147483648) : zn b - zn b / 128 * 128 = zn (b % 128) := zn_mod hb (by decide)
/-- the runs of ant a at a step to a side -/
theorem m_go_loop (hA : Inj ad) (hS : SSh G ad s) (ha : a < 6) (hv : vA A) (hn : an_n A < 1000000000) {t : Nat} (ht : t < 4) {Q : mS → Unit → Prop} (h : Nat → Nat) (hh : ∀ k, k < an_n A → h k = an_h A k) (ht2 : h (an_n A) = t) : ∀ (d p f : Nat) (M : mS), p + d = 121 → 1 ≤ p → d < f → (mI M (ad (s + 8)) a = zn (an_n A)) → (∀ k, 1 ≤ k → k ≤ an_n A → k ≤ 128 → mI M (ad (s + 9)) (128 * a + (an_n A - k) % 128) = zn (an_h A (an_n A - k))) → (∀ q, 1 ≤ q → q < p → mI M (ad (s + 10)) (121 * a + q) = zn (rn h q (an_n A + 1))) → (∀ q, p ≤ q → q ≤ 120 → mI M (ad (s + 10)) (121 * a + q) = zn (rn h q (an_n A))) → (∀ M', (∀ q, 1 ≤ q → q ≤ 120 → mI M' (ad (s + 10)) (121 * a + q) = zn (rn h q (an_n A + 1))) → (∀ k, k < 121 * a ∨ 121 * a + 121 ≤ k → mI M' (ad (s + 10)) k = mI M (ad (s + 10)) k) → Fr (Bk ad (s + 10) (s + 11)) M M' → p_cl (m_X11_go_2 G (ad s) (zn a) (zn t) 1 M' (zn 121)) Q) → p_cl (m_X11_go_2 G (ad s) (zn a) (zn t) f M (zn p)) Q := by
  intro d
  induction d with
  | zero =>
    intro p f M hp p1 hf h8 h9 hlo hhi hk
    obtain ⟨f, rfl⟩ : ∃ g, f = g + 1 := ⟨f - 1, by omega⟩
    have hp : p = 121 := by omega
    subst hp
    have := hk M (fun q q1 q2 => hlo q q1 (by omega)) (fun _ _ => rfl) Fr_rf
    rw [m_X11_go_2] at this ⊢
    rw [if_pos (show (120 : Int32) < zn 121 by decide)] at this ⊢
    exact this
  | succ d ih =>
    intro p f M hp p1 hf h8 h9 hlo hhi hk
    obtain ⟨f, rfl⟩ : ∃ g, f = g + 1 := ⟨f - 1, by omega⟩
    have e : (121 : Int32) * zn a + zn p = zn (121 * a + p) := by rw [show (121 : Int32) * zn a = zn (121 * a) from zn_mul 121 a, zn_add]
    rw [m_X11_go_2]
    refine c_f (by rw [show (120 : Int32) = zn 120 from rfl, zn_lt (by omega) (by omega)]; omega) (c_bd (c_rf (s13 hS) (c_rf (s11 hS) (c_ix (by rw [sn8 hS]; exact zn_in ha (by decide)) ?_))))
    rw [zn_nat (show a < 2147483648 by omega), h8, e]
    have step : ∀ v : Nat, v = rn h p (an_n A + 1) → p_cl (m_X11_go_72 G (ad s) (zn a) (zn t) (fun M v3 => m_X11_go_2 G (ad s) (zn a) (zn t) f M v3) M (zn p) (ad (s + 10)) (zn (121 * a + p)) (zn v)) Q := by
      intro v hvv
      unfold m_X11_go_72
      refine c_ix (by rw [sn10 hS]; exact zn_in (by omega) (by decide)) (c_wI (c_bd ?_))
      dsimp only
      rw [zn_nat (by omega), zn_one]
      have hF : Fr (Bk ad (s + 10) (s + 11)) M (wI M (ad (s + 10)) (121 * a + p) (zn v)) := Fr_wI Fr_rf (Bk_in (by omega) (by omega))
      refine ih (p + 1) f _ (by omega) (by omega) (by omega) (by rw [Fr_I hA hF (by omega)]; exact h8) (fun k k1 k2 k3 => by rw [Fr_I hA hF (by omega)]; exact h9 k k1 k2 k3) (fun q q1 q2 => ?_) (fun q q1 q2 => ?_) (fun M' g1 g2 g3 => ?_)
      · rw [mI_wI, if_pos rfl, upd_at]
        by_cases c : q = p
        · rw [if_pos (by omega), hvv, c]
        · rw [if_neg (by omega)]; exact hlo q q1 (by omega)
      · rw [mI_wI, if_pos rfl, upd_at, if_neg (by omega)]
        exact hhi q (by omega) q2
      · refine hk M' g1 (fun k hk2 => ?_) (Fr_tr hF g3)
        rw [g2 k hk2, mI_wI, if_pos rfl, upd_at, if_neg (by omega)]
    refine c_if (fun c => ?_) (fun c => ?_)
    · rw [zn_lt (by omega) (by omega)] at c
      unfold m_X11_go_71
      exact step 0 (by rw [rn, if_neg (by omega)])
    · rw [zn_lt (by omega) (by omega)] at c
      have e2 : (zn (an_n A) - zn p) - (zn (an_n A) - zn p) / 128 * 128 = zn ((an_n A - p) % 128) := by rw [zn_sub (by omega)]; exact zn_128 (a := 0) (by omega)
      have hm : (an_n A - p) % 128 < 128 := Nat.mod_lt _ (by decide)
      have e3 : (128 : Int32) * zn a + zn ((an_n A - p) % 128) = zn (128 * a + (an_n A - p) % 128) := by rw [show (128 : Int32) * zn a = zn (128 * a) from zn_mul 128 a, zn_add]
      refine c_rf (s12 hS) (c_rf (s11 hS) (c_ix (by rw [sn8 hS]; exact zn_in ha (by decide)) (c_ck (by decide) ?_)))
      rw [h8, e2, e3]
      refine c_ix (by rw [sn9 hS]; exact zn_in (by omega) (by decide)) ?_
      rw [zn_nat (show 128 * a + (an_n A - p) % 128 < 2147483648 by omega), h9 p p1 (by omega) (by omega)]
      have l1 := hv.2.2.2.2.2 (an_n A - p)
      refine c_if (fun z => ?_) (fun z => ?_)
      · rw [zn_inj (by omega) (by omega)] at z
        refine c_rf (s13 hS) (c_ix (by rw [sn10 hS]; exact zn_in (by omega) (by decide)) ?_)
        rw [zn_nat (by omega), hhi p (Nat.le_refl _) (by omega), zn_one]
        exact step _ (by rw [rn, if_pos ⟨by omega, by rw [ht2, hh _ (by omega)]; exact z⟩])
      · rw [zn_inj (by omega) (by omega)] at z
        unfold m_X11_go_71
        exact step 0 (by rw [rn, if_neg (by rintro ⟨-, q⟩; rw [ht2, hh _ (by omega)] at q; exact z q)])
end AntM
