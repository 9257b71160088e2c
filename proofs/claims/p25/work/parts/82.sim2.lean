/-! the yard by hand: meetings, tests, sums -/
/-- a small number in a row -/
theorem vi_1 {n : Nat} (h : 1 < n) (h2 : n ≤ 2147483648) : vp_in (1 : Int32) n := zn_in (a := 1) h h2
theorem vi_2 {n : Nat} (h : 2 < n) (h2 : n ≤ 2147483648) : vp_in (2 : Int32) n := zn_in (a := 2) h h2
theorem vi_3 {n : Nat} (h : 3 < n) (h2 : n ≤ 2147483648) : vp_in (3 : Int32) n := zn_in (a := 3) h h2
theorem vi_4 {n : Nat} (h : 4 < n) (h2 : n ≤ 2147483648) : vp_in (4 : Int32) n := zn_in (a := 4) h h2
theorem vi_5 {n : Nat} (h : 5 < n) (h2 : n ≤ 2147483648) : vp_in (5 : Int32) n := zn_in (a := 5) h h2
theorem vi_0 {n : Nat} (h : 0 < n) (h2 : n ≤ 2147483648) : vp_in (0 : Int32) n := zn_in (a := 0) h h2
section SimRead2
variable {G : gS} {M : mS} {rl : Nat → Nat} {o : Nat} {S : sA} {P : aP} {q : Nat → Nat → Nat} {Y : aY} {b : uS} {bb : Nat}
theorem SM_ar (h : SM G M rl o S P q Y) {i : Nat} (hi : i < yd_n Y) : aRow M (sra S i) (yd_a Y i) := (h.2.2.2.1 i hi).1
theorem pl_eq {A B : aA} (hA : vA A) (hB : vA B) : pl_ A = pl_ B ↔ an_x A = an_x B ∧ an_y A = an_y B := by
  have h1 := hA.2.1
  have h2 := hB.2.1
  unfold pl_
  constructor
  · intro h; omega
  · rintro ⟨h, h'⟩; omega
def atB (a : Nat → aA) (i j : Nat) : Bool := pl_ (a j) == pl_ (a i)
theorem s_isAt (h : SM G M rl o S P q Y) (hv : vY bb Y) {i j : Nat} (hi : i < yd_n Y) (hj : j < yd_n Y) {post : gS → mS → Int32 → Prop} (hk : post G M (bI (atB (yd_a Y) i j))) : n_X10_isAt b G M o (zn i) (zn j) post := by
  have h6 := hv.2.1
  obtain ⟨hqi, hni⟩ := SM_a h hi
  obtain ⟨hqj, hnj⟩ := SM_a h hj
  have hri := SM_ar h hi
  have hrj := SM_ar h hj
  have vi := (hv.2.2 i hi).1
  have vj := (hv.2.2 j hj).1
  have hin : ∀ {k : Nat}, k < yd_n Y → vp_in (zn k) (gN G (sg S 2)) := fun hk => by rw [(SM_n h).2.2.1]; exact zn_in hk (by omega)
  have x1 := vi.2.1
  have x2 := vi.2.2.1
  have x3 := vj.2.1
  have x4 := vj.2.2.1
  unfold n_X10_isAt nb_X10_isAt_42 nb_X10_isAt_43
  rw [zn_nat (by omega), zn_nat (by omega)]
  refine i_rf (SM_f h (i := 2) (by decide)) (i_ix (hin hi) (i_rf hqi (i_ix (by rw [hni]; exact vi_1 (by decide) (by decide)) (i_rf (SM_f h (i := 2) (by decide)) (i_ix (hin hj) (i_rf hqj (i_ix (by rw [hnj]; exact vi_1 (by decide) (by decide)) ?_)))))))
  rw [nat_1, nat_2, hri.2.1, hrj.2.1]
  refine i_if (fun k => ?_) (fun k => ?_)
  · have e1 := (zn_inj (by omega) (by omega)).mp k
    refine i_rf (SM_f h (i := 2) (by decide)) (i_ix (hin hi) (i_rf hqi (i_ix (by rw [hni]; exact vi_2 (by decide) (by decide)) (i_rf (SM_f h (i := 2) (by decide)) (i_ix (hin hj) (i_rf hqj (i_ix (by rw [hnj]; exact vi_2 (by decide) (by decide)) ?_)))))))
    rw [hri.2.2.1, hrj.2.2.1]
    refine i_if (fun k2 => ?_) (fun k2 => ?_)
    · have e2 := (zn_inj (by omega) (by omega)).mp k2
      have e : atB (yd_a Y) i j = true := beq_iff_eq.mpr ((pl_eq vj vi).mpr ⟨e1.symm, e2.symm⟩)
      rw [e] at hk
      exact i_ck (Or.inr rfl) hk
    · have e : atB (yd_a Y) i j = false := by
        cases e : atB (yd_a Y) i j with
        | false => rfl
        | true => exact absurd ((pl_eq vj vi).mp (beq_iff_eq.mp e)).2 (fun z => k2 (by rw [z]))
      rw [e] at hk
      exact i_ck (Or.inl rfl) hk
  · have e : atB (yd_a Y) i j = false := by
      cases e : atB (yd_a Y) i j with
      | false => rfl
      | true => exact absurd ((pl_eq vj vi).mp (beq_iff_eq.mp e)).1 (fun z => k (by rw [z]))
    rw [e] at hk
    exact i_ck (Or.inl rfl) hk
theorem meB_s {a : Nat → aA} {i j : Nat} : meB a (j + 1) i = (meB a j i || (j != i && atB a i j)) := by
  unfold meB atB
  rw [List.range_succ, List.any_append]
  simp
theorem bI_or {x y : Bool} : bI x ||| bI y = bI (x || y) := by cases x <;> cases y <;> decide
theorem s_meets (h : SM G M rl o S P q Y) (hv : vY bb Y) {i : Nat} (hi : i < yd_n Y) {post : gS → mS → Int32 → Prop} (hk : post G M (bI (meB (yd_a Y) (yd_n Y) i))) : n_X10_meets b G M o (zn i) post := by
  have h6 := hv.2.1
  unfold n_X10_meets
  refine ⟨fun n u G1 M1 v2 v3 => u = (0, 0) ∧ G1 = G ∧ M1 = M ∧ ∃ j, n + j = yd_n Y ∧ v3 = zn j ∧ v2 = bI (meB (yd_a Y) j i), yd_n Y, ⟨rfl, rfl, rfl, 0, rfl, rfl, rfl⟩, ?_⟩
  rintro n u G1 M1 v2 v3 ⟨rfl, rfl, rfl, j, hj, rfl, rfl⟩
  unfold nb_X10_meets_4 nb_X10_meets_32 nb_X10_meets_33
  refine i_rf (SM_f h (i := 2) (by decide)) ?_
  rw [(SM_n h).2.2.1]
  by_cases e : j = yd_n Y
  · subst e
    exact i_t ((zn_le (by omega) (by omega)).mpr (by omega)) (i_ck bI_01 hk)
  · refine i_f (by rw [zn_le (by omega) (by omega)]; omega) (i_if (fun k => ?_) (fun k => ?_))
    · have e1 := (zn_inj (by omega) (by omega)).mp k
      refine i_bd (i_bd ⟨n - 1, by omega, rfl, rfl, rfl, j + 1, by omega, zn_one j, ?_⟩)
      rw [meB_s, e1, show (0 : Int32) = bI false from rfl, bI_or]
      simp
    · have e1 : ¬ j = i := fun z => k (by rw [z])
      have e2 : (j != i) = true := bne_iff_ne.mpr e1
      refine i_ca0 uL0 (s_isAt h hv hi (by omega) ?_)
      refine i_if (fun k2 => ?_) (fun k2 => ?_)
      · refine i_bd (i_bd ⟨n - 1, by omega, rfl, rfl, rfl, j + 1, by omega, zn_one j, ?_⟩)
        rw [meB_s, e2, bI_0.mp k2, show (0 : Int32) = bI false from rfl, bI_or, Bool.true_and]
      · have e3 : atB (yd_a Y) i j = true := by
          cases e3 : atB (yd_a Y) i j with
          | true => rfl
          | false => exact absurd (bI_0.mpr e3) k2
        refine i_bd (i_bd ⟨n - 1, by omega, rfl, rfl, rfl, j + 1, by omega, zn_one j, ?_⟩)
        rw [meB_s, e2, e3, show (1 : Int32) = bI true from rfl, bI_or, Bool.true_and]
/-- what a row of an order says -/
def sHB (Y : aY) (w : Nat → Nat) : Bool := if w 3 = 0 then decide (w 4 < dk (yd_c Y)) else if w 3 = 1 then decide (yd_t Y % w 4 = w 5) else if w 3 = 2 then (decide (an_x (yd_a Y (w 4)) < w 5) || meB (yd_a Y) (yd_n Y) (w 4)) else if w 3 = 3 then (decide (0 < anP (yd_a Y (w 4))) && decide (an_w (yd_a Y (w 4)) = 1)) else decide (5 ≤ nz (yd_c Y) (64 * w 4) 64 + an_y (yd_a Y (w 5)) / 8)
def vT (n : Nat) (w : Nat → Nat) : Prop := w 3 < 5 ∧ w 4 < 64 ∧ w 5 < 64 ∧ (w 3 = 1 → 0 < w 4) ∧ (w 3 = 2 → w 4 < n) ∧ (w 3 = 3 → w 4 < n) ∧ (w 3 = 4 → w 5 < n)
theorem bI_t {b : Bool} (h : b = true) : bI b = 1 := by rw [h]; rfl
theorem bI_f {b : Bool} (h : b = false) : bI b = 0 := by rw [h]; rfl
theorem anP_le {A : aA} : anP A ≤ 120 := per_le
theorem s_holds (h : SM G M rl o S P q Y) (hv : vY 100000 Y) (ht : yd_t Y < 100000) {a1 : Nat} {w : Nat → Nat} (hN : gN G a1 = 6) (hw : ∀ j, j < 6 → mI M a1 j = zn (w j)) (hT : vT (yd_n Y) w) {post : gS → mS → Int32 → Prop} (hk : post G M (bI (sHB Y w))) : n_X10_holds b G M o a1 post := by
  have h6 := hv.2.1
  obtain ⟨t1, t2, t3, t4, t5, t6, t7⟩ := hT
  have hin : ∀ {k : Nat}, k < yd_n Y → vp_in (zn k) (gN G (sg S 2)) := fun hk => by rw [(SM_n h).2.2.1]; exact zn_in hk (by omega)
  have hi3 : vp_in (3 : Int32) (gN G a1) := by rw [hN]; exact vi_3 (by decide) (by decide)
  have hi4 : vp_in (4 : Int32) (gN G a1) := by rw [hN]; exact vi_4 (by decide) (by decide)
  have hi5 : vp_in (5 : Int32) (gN G a1) := by rw [hN]; exact vi_5 (by decide) (by decide)
  have hlit : ∀ {k : Nat} {l : Nat}, k < 1000 → l < 1000 → ((zn k = zn l) ↔ k = l) := fun a c => zn_inj (by omega) (by omega)
  unfold n_X10_holds nb_X10_holds_94 nb_X10_holds_128 nb_X10_holds_160 nb_X10_holds_129 nb_X10_holds_99 nb_X10_holds_67 nb_X10_holds_47
  rw [nat_3, nat_4, nat_5, nat_1, nat_2, hw 3 (by decide), hw 4 (by decide), hw 5 (by decide)]
  refine i_ix hi3 (i_if (fun k0 => ?_) (fun k0 => i_if (fun k1 => ?_) (fun k1 => i_if (fun k2 => ?_) (fun k2 => i_if (fun k3 => ?_) (fun k3 => ?_)))))
  · have e0 : w 3 = 0 := (hlit (l := 0) (by omega) (by decide)).mp k0
    have hB : sHB Y w = decide (w 4 < dk (yd_c Y)) := by unfold sHB; rw [if_pos e0]
    have hd := dk_le (c := yd_c Y)
    refine i_ca0 uL0 (s_dark h hv.1 (i_ix hi4 ?_))
    rw [hw 4 (by decide)]
    refine i_if (fun k => ?_) (fun k => ?_)
    · have : ¬ w 4 < dk (yd_c Y) := by have := (zn_le (by omega) (by omega)).mp k; omega
      rw [hB, decide_eq_false this] at hk
      exact i_ck (Or.inl rfl) hk
    · have : w 4 < dk (yd_c Y) := by
        have : ¬ dk (yd_c Y) ≤ w 4 := fun z => k ((zn_le (by omega) (by omega)).mpr z)
        omega
      rw [hB, decide_eq_true this] at hk
      exact i_ck (Or.inr rfl) hk
  · have e0 : ¬ w 3 = 0 := fun z => k0 (by rw [z]; rfl)
    have e1 : w 3 = 1 := (hlit (l := 1) (by omega) (by decide)).mp k1
    have hB : sHB Y w = decide (yd_t Y % w 4 = w 5) := by unfold sHB; rw [if_neg e0, if_pos e1]
    have hp := t4 e1
    refine i_ix hi4 (i_ck (fun z => ?_) (i_ix hi5 ?_))
    · have := (hlit (l := 0) (by omega) (by decide)).mp z
      omega
    · rw [h.2.1.1, zn_mod (by omega) (by omega)]
      have hm := Nat.mod_lt (yd_t Y) hp
      refine i_if (fun k => ?_) (fun k => ?_)
      · rw [hB, decide_eq_true ((hlit (by omega) (by omega)).mp k)] at hk
        exact i_ck (Or.inr rfl) hk
      · rw [hB, decide_eq_false (fun z => k (by rw [z]))] at hk
        exact i_ck (Or.inl rfl) hk
  · have e0 : ¬ w 3 = 0 := fun z => k0 (by rw [z]; rfl)
    have e1 : ¬ w 3 = 1 := fun z => k1 (by rw [z]; rfl)
    have e2 : w 3 = 2 := (hlit (l := 2) (by omega) (by decide)).mp k2
    have hB : sHB Y w = (decide (an_x (yd_a Y (w 4)) < w 5) || meB (yd_a Y) (yd_n Y) (w 4)) := by unfold sHB; rw [if_neg e0, if_neg e1, if_pos e2]
    have hi := t5 e2
    obtain ⟨hqi, hni⟩ := SM_a h hi
    have hx := (hv.2.2 _ hi).1.2.1
    refine i_rf (SM_f h (i := 2) (by decide)) (i_ix hi4 (i_ix (hin hi) ?_))
    rw [zn_nat (by omega)]
    refine i_rf hqi (i_ix (by rw [hni]; exact vi_1 (by decide) (by decide)) (i_ix hi5 ?_))
    rw [(SM_ar h hi).2.1]
    refine i_if (fun k => ?_) (fun k => ?_)
    · rw [hB, decide_eq_true ((zn_lt (by omega) (by omega)).mp k)] at hk
      exact i_ck (Or.inr rfl) hk
    · rw [hB, decide_eq_false (fun z => k ((zn_lt (by omega) (by omega)).mpr z)), Bool.false_or] at hk
      refine i_ix hi4 (i_ca0 uL0 (s_meets h hv hi (i_if (fun k4 => ?_) (fun k4 => ?_))))
      · rw [k4] at hk
        exact i_ck (Or.inl rfl) hk
      · rw [bI_t (by
          cases e3 : meB (yd_a Y) (yd_n Y) (w 4) with
          | true => rfl
          | false => exact absurd (bI_f e3) k4)] at hk
        exact i_ck (Or.inr rfl) hk
  · have e0 : ¬ w 3 = 0 := fun z => k0 (by rw [z]; rfl)
    have e1 : ¬ w 3 = 1 := fun z => k1 (by rw [z]; rfl)
    have e2 : ¬ w 3 = 2 := fun z => k2 (by rw [z]; rfl)
    have e3 : w 3 = 3 := (hlit (l := 3) (by omega) (by decide)).mp k3
    have hB : sHB Y w = (decide (0 < anP (yd_a Y (w 4))) && decide (an_w (yd_a Y (w 4)) = 1)) := by unfold sHB; rw [if_neg e0, if_neg e1, if_neg e2, if_pos e3]
    have hi := t6 e3
    obtain ⟨hqi, hni⟩ := SM_a h hi
    have hx := (hv.2.2 _ hi).1.2.2.2.2.1
    have hp : anP (yd_a Y (w 4)) ≤ 120 := anP_le
    refine i_ix hi4 (i_ca0 uL0 (s_period h hv hi (i_if (fun k => ?_) (fun k => ?_))))
    · have : ¬ 0 < anP (yd_a Y (w 4)) := by
        have := (zn_le (a := anP (yd_a Y (w 4))) (b := 0) (by omega) (by decide)).mp k
        omega
      rw [hB, decide_eq_false this, Bool.false_and] at hk
      exact i_ck (Or.inl rfl) hk
    · have : 0 < anP (yd_a Y (w 4)) := by
        have : ¬ anP (yd_a Y (w 4)) ≤ 0 := fun z => k ((zn_le (a := anP (yd_a Y (w 4))) (b := 0) (by omega) (by decide)).mpr z)
        omega
      rw [hB, decide_eq_true this, Bool.true_and] at hk
      refine i_rf (SM_f h (i := 2) (by decide)) (i_ix hi4 ?_)
      rw [hw 4 (by decide)]
      refine i_ix (hin hi) ?_
      rw [zn_nat (by omega)]
      refine i_rf hqi (i_ix (by rw [hni]; exact vi_4 (by decide) (by decide)) ?_)
      rw [(SM_ar h hi).2.2.2.2.1]
      refine i_if (fun k5 => ?_) (fun k5 => ?_)
      · rw [decide_eq_true ((hlit (l := 1) (by omega) (by decide)).mp k5)] at hk
        exact i_ck (Or.inr rfl) hk
      · rw [decide_eq_false (fun z => k5 (by rw [z]; rfl))] at hk
        exact i_ck (Or.inl rfl) hk
  · have e0 : ¬ w 3 = 0 := fun z => k0 (by rw [z]; rfl)
    have e1 : ¬ w 3 = 1 := fun z => k1 (by rw [z]; rfl)
    have e2 : ¬ w 3 = 2 := fun z => k2 (by rw [z]; rfl)
    have e3 : ¬ w 3 = 3 := fun z => k3 (by rw [z]; rfl)
    have e4 : w 3 = 4 := by omega
    have hB : sHB Y w = decide (5 ≤ nz (yd_c Y) (64 * w 4) 64 + an_y (yd_a Y (w 5)) / 8) := by unfold sHB; rw [if_neg e0, if_neg e1, if_neg e2, if_neg e3]
    have hi := t7 e4
    obtain ⟨hqi, hni⟩ := SM_a h hi
    have hx := (hv.2.2 _ hi).1.2.2.1
    have hz := nz_le (c := yd_c Y) (b := 64 * w 4) 64
    refine i_ix hi4 (i_ca0 uL0 (s_darkIn h hv.1 t2 (i_rf (SM_f h (i := 2) (by decide)) (i_ix hi5 ?_))))
    rw [hw 5 (by decide)]
    refine i_ix (hin hi) ?_
    rw [zn_nat (by omega)]
    refine i_rf hqi (i_ix (by rw [hni]; exact vi_2 (by decide) (by decide)) (i_ck (by decide) ?_))
    rw [(SM_ar h hi).2.2.1, show (8 : Int32) = zn 8 from rfl, zn_div (by omega) (by decide), zn_add]
    refine i_if (fun k => ?_) (fun k => ?_)
    · have := (zn_lt (b := 5) (by omega) (by decide)).mp k
      rw [hB, decide_eq_false (by omega)] at hk
      exact i_ck (Or.inl rfl) hk
    · have : ¬ nz (yd_c Y) (64 * w 4) 64 + an_y (yd_a Y (w 5)) / 8 < 5 := fun z => k ((zn_lt (b := 5) (by omega) (by decide)).mpr z)
      rw [hB, decide_eq_true (by omega)] at hk
      exact i_ck (Or.inr rfl) hk
/-- a row's stones added, all added -/
def sm (c : Nat → Nat) (b : Nat) : Nat → Nat
  | 0 => 0
  | j + 1 => sm c b j + c (b + j)
theorem sm_le {c : Nat → Nat} (hv : ∀ p, c p < 6) {b : Nat} : ∀ j : Nat, sm c b j ≤ 5 * j := by
  intro j
  induction j with
  | zero => exact Nat.le_refl 0
  | succ j ih =>
    have := hv (b + j)
    show sm c b j + c (b + j) ≤ 5 * (j + 1)
    omega
theorem sm_app {c : Nat → Nat} {b k : Nat} : ∀ j : Nat, sm c b (k + j) = sm c b k + sm c (b + k) j := by
  intro j
  induction j with
  | zero => rfl
  | succ j ih =>
    show sm c b (k + j) + c (b + (k + j)) = sm c b k + (sm c (b + k) j + c (b + k + j))
    rw [ih, show b + k + j = b + (k + j) by omega]
    omega
theorem s_sum (h : SM G M rl o S P q Y) (hv : ∀ p, yd_c Y p < 6) {post : gS → mS → Int32 → Prop} (hk : post G M (zn (sm (yd_c Y) 0 4096))) : n_X10_sum b G M o post := by
  unfold n_X10_sum
  refine i_rf (SM_f h (i := 1) (by decide)) (i_bd ?_)
  rw [(SM_n h).2.1]
  refine ⟨fun n u G1 M1 v1 v2 v3 v4 => u = (0, 0) ∧ G1 = G ∧ M1 = M ∧ v2 = sg S 1 ∧ v3 = zn 64 ∧ ∃ j, n + j = 64 ∧ v4 = zn j ∧ v1 = zn (sm (yd_c Y) 0 (64 * j)), 64, ⟨rfl, rfl, rfl, rfl, rfl, 0, rfl, rfl, rfl⟩, ?_⟩
  rintro n u G1 M1 v1 v2 v3 v4 ⟨rfl, rfl, rfl, rfl, rfl, r, hr, rfl, rfl⟩
  unfold nb_X10_sum_13
  by_cases e : r = 64
  · subst e
    exact i_t ((zn_le (by decide) (by decide)).mpr (by decide)) hk
  · have hr2 : r < 64 := by omega
    obtain ⟨hq, hn⟩ := SM_y h hr2
    refine i_f (by rw [zn_le (by decide) (by omega)]; omega) (i_ix (by rw [(SM_n h).2.1]; exact zn_in hr2 (by decide)) ?_)
    rw [zn_nat (by omega)]
    refine i_rf hq (i_bd ?_)
    rw [hn]
    refine ⟨fun m u G2 M2 v1 v2 v3 v4 v6 v7 v8 => u = (0, 0) ∧ G2 = G1 ∧ M2 = M1 ∧ v2 = sg S 1 ∧ v3 = zn 64 ∧ v4 = zn r ∧ v6 = sry S r ∧ v7 = zn 64 ∧ ∃ j, m + j = 64 ∧ v8 = zn j ∧ v1 = zn (sm (yd_c Y) 0 (64 * r + j)), 64, ⟨rfl, rfl, rfl, rfl, rfl, rfl, rfl, rfl, 0, rfl, rfl, rfl⟩, ?_⟩
    rintro m u G2 M2 v1 v2 v3 v4 v6 v7 v8 ⟨rfl, rfl, rfl, rfl, rfl, rfl, rfl, rfl, j, hj, rfl, rfl⟩
    unfold nb_X10_sum_37
    by_cases e2 : j = 64
    · subst e2
      exact i_t ((zn_le (by decide) (by decide)).mpr (by decide)) (i_bd ⟨n - 1, by omega, rfl, rfl, rfl, rfl, rfl, r + 1, by omega, zn_one r, rfl⟩)
    · have hj2 : j < 64 := by omega
      refine i_f (by rw [zn_le (by decide) (by omega)]; omega) (i_ix (by rw [hn]; exact zn_in hj2 (by decide)) (i_bd (i_bd (i_bd ?_))))
      rw [zn_nat (by omega), h.2.2.1 r hr2 j hj2]
      refine ⟨m - 1, by omega, rfl, rfl, rfl, rfl, rfl, rfl, rfl, rfl, j + 1, by omega, zn_one j, ?_⟩
      rw [zn_add]
      show _ = zn (sm (yd_c Y) 0 (64 * r + j) + yd_c Y (0 + (64 * r + j)))
      rw [Nat.zero_add]
end SimRead2
