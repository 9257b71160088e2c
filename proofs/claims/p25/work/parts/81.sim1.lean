/-! the yard by hand: asking -/
theorem n_add (x y : Int) : Int32.ofInt (x + y) = Int32.ofInt x + Int32.ofInt y := Int32.ofInt_add x y
/-- a sum from place b on -/
def fD (d : Nat → Int) (h : Nat → Nat) (b : Nat) : Nat → Int
  | 0 => 0
  | j + 1 => fD d h b j + d (h (b + j))
theorem fD_f {d : Nat → Int} {h : Nat → Nat} {b : Nat} : ∀ j : Nat, fD d h b (j + 1) = d (h b) + fD d h (b + 1) j := by
  intro j
  induction j with
  | zero => show (0 : Int) + d (h (b + 0)) = d (h b) + 0; rw [Nat.add_zero]; omega
  | succ j ih =>
    show fD d h b (j + 1) + d (h (b + (j + 1))) = d (h b) + (fD d h (b + 1) j + d (h (b + 1 + j)))
    rw [ih, show b + 1 + j = b + (j + 1) by omega]
    omega
theorem fD_E {n : Nat} {h : Nat → Nat} : ∀ p : Nat, p ≤ n → fD dE h (n - p) p = sE n h p := by
  intro p
  induction p with
  | zero => intro _; rfl
  | succ p ih =>
    intro hp
    rw [fD_f, show n - (p + 1) + 1 = n - p by omega, ih (by omega)]
    show _ = sE n h p + dE (h (n - (p + 1)))
    omega
theorem fD_S {n : Nat} {h : Nat → Nat} : ∀ p : Nat, p ≤ n → fD dS h (n - p) p = sS n h p := by
  intro p
  induction p with
  | zero => intro _; rfl
  | succ p ih =>
    intro hp
    rw [fD_f, show n - (p + 1) + 1 = n - p by omega, ih (by omega)]
    show _ = sS n h p + dS (h (n - (p + 1)))
    omega
/-- what a side counts toward another -/
def dD (s : Nat) (x : Nat) : Int := if x = s then 1 else if x = (s + 2) % 4 then -1 else 0
theorem dD_1 : dD 1 = dE := rfl
theorem dD_2 : dD 2 = dS := rfl
def bI (b : Bool) : Int32 := if b then 1 else 0
theorem bI_01 {b : Bool} : bI b = 0 ∨ bI b = 1 := by cases b; exact Or.inl rfl; exact Or.inr rfl
theorem bI_0 {b : Bool} : bI b = 0 ↔ b = false := by cases b <;> decide
section SimRead1
variable {G : gS} {M : mS} {rl : Nat → Nat} {o : Nat} {S : sA} {P : aP} {q : Nat → Nat → Nat} {Y : aY} {b : uS} {bb : Nat}
theorem s_led (h : SM G M rl o S P q Y) (hv : vY 100000 Y) {i p s : Nat} (hi : i < yd_n Y) (hp : p ≤ an_n (yd_a Y i)) (hs : s = 1 ∨ s = 2) {c3 : Int32} (hc3 : c3 = zn s) {post : gS → mS → Int32 → Prop} (hk : post G M (Int32.ofInt (fD (dD s) (an_h (yd_a Y i)) (an_n (yd_a Y i) - p) p))) : n_X10_led b G M o (zn i) (zn p) c3 post := by
  subst hc3
  obtain ⟨hq, hn⟩ := SM_p h hi
  have hN : an_n (yd_a Y i) ≤ 100000 := (hv.2.2 i hi).2
  have h6 := hv.2.1
  have hm : zn s + (2 : Int32) - (zn s + (2 : Int32)) / (4 : Int32) * (4 : Int32) = zn ((s + 2) % 4) := by rcases hs with rfl | rfl <;> decide
  have hs2 : s < 4 := by omega
  unfold n_X10_led
  refine i_rf (SM_f h (i := 3) (by decide)) (i_ix (by rw [(SM_n h).2.2.2.1]; exact zn_in hi (by omega)) ?_)
  rw [zn_nat (by omega)]
  refine i_rf hq (i_bd ?_)
  rw [hn, show Int32.ofNat (an_n (yd_a Y i)) - zn p = zn (an_n (yd_a Y i) - p) from zn_sub hp]
  refine ⟨fun n u G1 M1 v4 v5 v6 => G1 = G ∧ M1 = M ∧ v4 = srp S i ∧ ∃ j, n + j = p ∧ v6 = zn (an_n (yd_a Y i) - p + j) ∧ v5 = Int32.ofInt (fD (dD s) (an_h (yd_a Y i)) (an_n (yd_a Y i) - p) j), p, ⟨rfl, rfl, rfl, 0, rfl, rfl, rfl⟩, ?_⟩
  rintro n u G1 M1 v4 v5 v6 ⟨rfl, rfl, rfl, j, hj, rfl, rfl⟩
  unfold nb_X10_led_18
  rw [hn]
  by_cases e : j = p
  · subst e
    exact i_t ((zn_le (by omega) (by omega)).mpr (by omega)) hk
  · have hb : an_n (yd_a Y i) - p + j < an_n (yd_a Y i) := by omega
    have hx := (hv.2.2 i hi).1.2.2.2.2.2 (an_n (yd_a Y i) - p + j)
    have hst : fD (dD s) (an_h (yd_a Y i)) (an_n (yd_a Y i) - p) (j + 1) = fD (dD s) (an_h (yd_a Y i)) (an_n (yd_a Y i) - p) j + dD s (an_h (yd_a Y i) (an_n (yd_a Y i) - p + j)) := rfl
    refine i_f (by rw [zn_le (by omega) (by omega)]; omega) (i_ix (zn_in hb (by omega)) ?_)
    rw [zn_nat (by omega), (h.2.2.2.1 i hi).2 _ hb]
    have hfin : ∀ v : Int32, v = Int32.ofInt (dD s (an_h (yd_a Y i) (an_n (yd_a Y i) - p + j))) → nb_X10_led_59 b o (zn i) (zn p) (zn s) (fun u G M v4 v5 v6 => ∃ k, k < n ∧ (G = G1 ∧ M = M1 ∧ v4 = srp S i ∧ ∃ j, k + j = p ∧ v6 = zn (an_n (yd_a Y i) - p + j) ∧ v5 = Int32.ofInt (fD (dD s) (an_h (yd_a Y i)) (an_n (yd_a Y i) - p) j))) post u G1 M1 (srp S i) (zn (an_n (yd_a Y i) - p + j)) (Int32.ofInt (fD (dD s) (an_h (yd_a Y i)) (an_n (yd_a Y i) - p) j)) v := by
      intro v e1
      subst e1
      exact i_bd (i_bd ⟨n - 1, by omega, rfl, rfl, rfl, j + 1, by omega, zn_one _, by rw [hst, n_add]⟩)
    refine i_if (fun k => ?_) (fun k => ?_)
    · have e2 := (zn_inj (by omega) (by omega)).mp k
      exact hfin 1 (by unfold dD; rw [if_pos e2]; rfl)
    · have e2 : ¬ an_h (yd_a Y i) (an_n (yd_a Y i) - p + j) = s := fun e2 => k (by rw [e2])
      refine i_ix (zn_in hb (by omega)) (i_ck (by decide) ?_)
      rw [hm]
      refine i_if (fun k2 => ?_) (fun k2 => ?_)
      · have e3 := (zn_inj (by omega) (by omega)).mp k2
        exact hfin (-1) (by unfold dD; rw [if_neg e2, if_pos e3]; rfl)
      · have e3 : ¬ an_h (yd_a Y i) (an_n (yd_a Y i) - p + j) = (s + 2) % 4 := fun e3 => k2 (by rw [e3])
        exact hfin 0 (by unfold dD; rw [if_neg e2, if_neg e3]; rfl)
theorem s_ledE (h : SM G M rl o S P q Y) (hv : vY 100000 Y) {i p : Nat} (hi : i < yd_n Y) (hp : p ≤ an_n (yd_a Y i)) {post : gS → mS → Int32 → Prop} (hk : post G M (Int32.ofInt (sE (an_n (yd_a Y i)) (an_h (yd_a Y i)) p))) : n_X10_led b G M o (zn i) (zn p) (1 : Int32) post := s_led h hv hi hp (Or.inl rfl) rfl (by rw [dD_1, fD_E p hp]; exact hk)
theorem s_ledS (h : SM G M rl o S P q Y) (hv : vY 100000 Y) {i p : Nat} (hi : i < yd_n Y) (hp : p ≤ an_n (yd_a Y i)) {post : gS → mS → Int32 → Prop} (hk : post G M (Int32.ofInt (sS (an_n (yd_a Y i)) (an_h (yd_a Y i)) p))) : n_X10_led b G M o (zn i) (zn p) (2 : Int32) post := s_led h hv hi hp (Or.inr rfl) rfl (by rw [dD_2, fD_S p hp]; exact hk)
theorem pok_t {n : Nat} {h : Nat → Nat} {p : Nat} (h1 : 3 * p ≤ n) (h2 : rpB n h p = true) (h3 : sE n h p ≠ 0 ∨ sS n h p ≠ 0) : pok n h p = true := by
  unfold pok
  rw [decide_eq_true h1, h2, Bool.true_and, Bool.true_and, Bool.or_eq_true, bne_iff_ne, bne_iff_ne]
  exact h3
theorem pok_f1 {n : Nat} {h : Nat → Nat} {p : Nat} (h2 : rpB n h p = false) : pok n h p = false := by
  unfold pok
  rw [h2, Bool.false_and, Bool.and_false]
theorem pok_f2 {n : Nat} {h : Nat → Nat} {p : Nat} (h2 : sE n h p = 0) (h3 : sS n h p = 0) : pok n h p = false := by
  unfold pok
  rw [h2, h3]
  simp
/-- the period's two sums -/
theorem s_per2 (h : SM G M rl o S P q Y) (hv : vY 100000 Y) {i p : Nat} (hi : i < yd_n Y) (hp : 3 * p ≤ an_n (yd_a Y i)) (hp2 : p ≤ 120) {post : gS → mS → Int32 → Prop} {kb : uS → gS → mS → Nat → Int32 → Prop} {v2 : Nat} {v4 : Int32} (h4 : (v4 = 0 ∧ rpB (an_n (yd_a Y i)) (an_h (yd_a Y i)) p = false) ∨ (v4 = 1 ∧ rpB (an_n (yd_a Y i)) (an_h (yd_a Y i)) p = true)) (h1 : pok (an_n (yd_a Y i)) (an_h (yd_a Y i)) p = true → post G M (zn p)) (h2 : pok (an_n (yd_a Y i)) (an_h (yd_a Y i)) p = false → kb (0, 0) G M v2 (zn (p + 1))) : nb_X10_period_72 b o (zn i) kb post (0, 0) G M v2 (zn p) v4 := by
  unfold nb_X10_period_72
  rcases h4 with ⟨rfl, hr⟩ | ⟨rfl, hr⟩
  · exact i_t rfl (i_bde (zn_one p) (h2 (pok_f1 hr)))
  · refine i_f (by decide) (i_ca0 uL0 (s_ledE h hv hi (by omega) ?_))
    have b1 := sE_le (n := an_n (yd_a Y i)) (h := an_h (yd_a Y i)) p
    have b2 := sS_le (n := an_n (yd_a Y i)) (h := an_h (yd_a Y i)) p
    refine i_if (fun k => ?_) (fun k => ?_)
    · have z1 := (ofInt_zero (by omega) (by omega)).mp k
      refine i_ca0 uL0 (s_ledS h hv hi (by omega) ?_)
      refine i_if (fun k2 => ?_) (fun k2 => ?_)
      · have z2 := (ofInt_zero (by omega) (by omega)).mp k2
        exact i_bde (zn_one p) (h2 (pok_f2 z1 z2))
      · exact h1 (pok_t hp hr (Or.inr (fun z => k2 ((ofInt_zero (by omega) (by omega)).mpr z))))
    · exact h1 (pok_t hp hr (Or.inl (fun z => k ((ofInt_zero (by omega) (by omega)).mpr z))))
theorem rpB_rev {n : Nat} {h : Nat → Nat} {p : Nat} (hp : 3 * p ≤ n) : rpB n h p = true ↔ ∀ j, j < 2 * p → h (n - 2 * p + j) = h (n - 2 * p + j - p) := by
  rw [rpB_t]
  constructor
  · intro H j hj
    have := H (2 * p - 1 - j) (by omega)
    rw [show n - (2 * p - 1 - j + 1) = n - 2 * p + j by omega] at this
    exact this
  · intro H j hj
    have := H (2 * p - 1 - j) (by omega)
    rw [show n - 2 * p + (2 * p - 1 - j) = n - (j + 1) by omega] at this
    exact this
theorem s_period (h : SM G M rl o S P q Y) (hv : vY 100000 Y) {i : Nat} (hi : i < yd_n Y) {post : gS → mS → Int32 → Prop} (hk : post G M (zn (anP (yd_a Y i)))) : n_X10_period b G M o (zn i) post := by
  obtain ⟨hq, hn⟩ := SM_p h hi
  have hN : an_n (yd_a Y i) ≤ 100000 := (hv.2.2 i hi).2
  have h6 := hv.2.1
  unfold n_X10_period
  refine i_rf (SM_f h (i := 3) (by decide)) (i_ix (by rw [(SM_n h).2.2.2.1]; exact zn_in hi (by omega)) ?_)
  rw [zn_nat (by omega)]
  refine i_rf hq ?_
  refine ⟨fun n u G1 M1 v2 v3 => u = (0, 0) ∧ G1 = G ∧ M1 = M ∧ v2 = srp S i ∧ ∃ p, n + p = 121 ∧ 1 ≤ p ∧ v3 = zn p ∧ anP (yd_a Y i) = perF (an_n (yd_a Y i)) (an_h (yd_a Y i)) n p, 120, ⟨rfl, rfl, rfl, rfl, 1, rfl, by decide, rfl, rfl⟩, ?_⟩
  rintro n u G1 M1 v2 v3 ⟨rfl, rfl, rfl, rfl, p, hp, hp1, rfl, he⟩
  unfold nb_X10_period_9 nb_X10_period_105
  refine i_if (fun k => ?_) (fun k => ?_)
  · have k2 := (zn_lt (a := 120) (b := p) (by omega) (by omega)).mp k
    have e0 : n = 0 := by omega
    subst e0
    rw [he] at hk
    exact hk
  · have k2 : p ≤ 120 := by
      have : ¬ 120 < p := fun h3 => k ((zn_lt (a := 120) (b := p) (by omega) (by omega)).mpr h3)
      omega
    rw [hn, show (3 : Int32) * zn p = zn (3 * p) from zn_mul 3 p, show (2 : Int32) * zn p = zn (2 * p) from zn_mul 2 p]
    refine i_if (fun k3 => ?_) (fun k3 => ?_)
    · rw [he, perF_big n p ((zn_lt (by omega) (by omega)).mp k3)] at hk
      exact hk
    · have k4 : 3 * p ≤ an_n (yd_a Y i) := by
        have : ¬ an_n (yd_a Y i) < 3 * p := fun h3 => k3 ((zn_lt (by omega) (by omega)).mpr h3)
        omega
      refine i_bd ?_
      rw [show Int32.ofNat (an_n (yd_a Y i)) - zn (2 * p) = zn (an_n (yd_a Y i) - 2 * p) from zn_sub (by omega)]
      obtain ⟨m, rfl⟩ : ∃ m, n = m + 1 := ⟨n - 1, by omega⟩
      have hst : perF (an_n (yd_a Y i)) (an_h (yd_a Y i)) (m + 1) p = if pok (an_n (yd_a Y i)) (an_h (yd_a Y i)) p then p else perF (an_n (yd_a Y i)) (an_h (yd_a Y i)) m (p + 1) := rfl
      have fin : ∀ v4 : Int32, ((v4 = 0 ∧ rpB (an_n (yd_a Y i)) (an_h (yd_a Y i)) p = false) ∨ (v4 = 1 ∧ rpB (an_n (yd_a Y i)) (an_h (yd_a Y i)) p = true)) → nb_X10_period_72 b o (zn i) (fun u G M v2 v3 => ∃ k, k < m + 1 ∧ (u = (0, 0) ∧ G = G1 ∧ M = M1 ∧ v2 = srp S i ∧ ∃ p, k + p = 121 ∧ 1 ≤ p ∧ v3 = zn p ∧ anP (yd_a Y i) = perF (an_n (yd_a Y i)) (an_h (yd_a Y i)) k p)) post (0, 0) G1 M1 (srp S i) (zn p) v4 := by
        intro v4 h4
        refine s_per2 h hv hi k4 k2 h4 (fun z => ?_) (fun z => ?_)
        · rw [he, hst, if_pos z] at hk
          exact hk
        · refine ⟨m, by omega, rfl, rfl, rfl, rfl, p + 1, by omega, by omega, rfl, ?_⟩
          rw [he, hst, if_neg (by rw [z]; decide)]
      refine ⟨fun n u G2 M2 v2 v3 v4 v5 => u = (0, 0) ∧ G2 = G1 ∧ M2 = M1 ∧ v2 = srp S i ∧ v3 = zn p ∧ ∃ j, n + j = 2 * p ∧ v5 = zn (an_n (yd_a Y i) - 2 * p + j) ∧ ((v4 = 0 ∧ rpB (an_n (yd_a Y i)) (an_h (yd_a Y i)) p = false) ∨ (v4 = 1 ∧ ∀ t, t < j → an_h (yd_a Y i) (an_n (yd_a Y i) - 2 * p + t) = an_h (yd_a Y i) (an_n (yd_a Y i) - 2 * p + t - p))), 2 * p, ⟨rfl, rfl, rfl, rfl, rfl, 0, rfl, rfl, Or.inr ⟨rfl, fun t ht => absurd ht (Nat.not_lt_zero t)⟩⟩, ?_⟩
      rintro n u G2 M2 v2 v3 v4 v5 ⟨rfl, rfl, rfl, rfl, rfl, j, hj, rfl, h4⟩
      unfold nb_X10_period_34
      rw [hn]
      by_cases e : j = 2 * p
      · subst e
        refine i_t ((zn_le (by omega) (by omega)).mpr (by omega)) (fin v4 (h4.elim Or.inl (fun z => Or.inr ⟨z.1, (rpB_rev k4).mpr z.2⟩)))
      · refine i_f (by rw [zn_le (by omega) (by omega)]; omega) ?_
        rcases h4 with ⟨rfl, h5⟩ | ⟨rfl, h5⟩
        · exact i_t rfl (fin 0 (Or.inl ⟨rfl, h5⟩))
        · refine i_f (by decide) (i_ix (zn_in (by omega) (by omega)) ?_)
          rw [show zn (an_n (yd_a Y i) - 2 * p + j) - zn p = zn (an_n (yd_a Y i) - 2 * p + j - p) from zn_sub (by omega)]
          refine i_ix (zn_in (by omega) (by omega)) ?_
          rw [zn_nat (by omega), zn_nat (by omega), (h.2.2.2.1 i hi).2 _ (by omega), (h.2.2.2.1 i hi).2 _ (by omega)]
          have hx := (hv.2.2 i hi).1.2.2.2.2.2 (an_n (yd_a Y i) - 2 * p + j)
          have hy := (hv.2.2 i hi).1.2.2.2.2.2 (an_n (yd_a Y i) - 2 * p + j - p)
          refine i_if (fun k5 => ?_) (fun k5 => ?_)
          · have e5 := (zn_inj (by omega) (by omega)).mp k5
            refine i_bd ⟨n - 1, by omega, rfl, rfl, rfl, rfl, rfl, j + 1, by omega, zn_one _, Or.inr ⟨rfl, fun t ht => ?_⟩⟩
            by_cases e6 : t = j
            · subst e6; exact e5
            · exact h5 t (by omega)
          · refine i_bd ⟨n - 1, by omega, rfl, rfl, rfl, rfl, rfl, j + 1, by omega, zn_one _, Or.inl ⟨rfl, ?_⟩⟩
            cases e7 : rpB (an_n (yd_a Y i)) (an_h (yd_a Y i)) p with
            | false => rfl
            | true => exact absurd ((rpB_rev k4).mp e7 j (by omega)) (fun z => k5 (by rw [z]))
end SimRead1
