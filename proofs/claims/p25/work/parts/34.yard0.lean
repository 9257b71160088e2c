/-! yards: in words of numbers -/
/-- a yard: colours of stones, ants, steps, meetings, washed stones, orders carried out -/
abbrev aY : Type := (Nat → Nat) × Nat × (Nat → aA) × Nat × Nat × Nat × Nat
abbrev yd_c (Y : aY) : Nat → Nat := Y.1
abbrev yd_n (Y : aY) : Nat := Y.2.1
abbrev yd_a (Y : aY) : Nat → aA := Y.2.2.1
abbrev yd_t (Y : aY) : Nat := Y.2.2.2.1
abbrev yd_m (Y : aY) : Nat := Y.2.2.2.2.1
abbrev yd_w (Y : aY) : Nat := Y.2.2.2.2.2.1
abbrev yd_k (Y : aY) : Nat := Y.2.2.2.2.2.2
def vY (b : Nat) (Y : aY) : Prop := (∀ p, yd_c Y p < 6) ∧ yd_n Y ≤ 6 ∧ ∀ i, i < yd_n Y → vA (yd_a Y i) ∧ an_n (yd_a Y i) ≤ b
def nz (c : Nat → Nat) (b : Nat) : Nat → Nat
  | 0 => 0
  | k + 1 => nz c b k + if c (b + k) = 0 then 0 else 1
def cn (c : Nat → Nat) (v : Nat) : Nat → Nat
  | 0 => 0
  | k + 1 => cn c v k + if c k = v then 1 else 0
abbrev dk (c : Nat → Nat) : Nat := nz c 0 4096
def cSet (c : Nat → Nat) (p v : Nat) : Nat → Nat := fun q => if q = p then v else c q
theorem cSet_at {c : Nat → Nat} {p v q : Nat} : cSet c p v q = if q = p then v else c q := rfl
theorem nz_out {c : Nat → Nat} {p v b : Nat} : ∀ k : Nat, (p < b ∨ b + k ≤ p) → nz (cSet c p v) b k = nz c b k := by
  intro k
  induction k with
  | zero => intro _; rfl
  | succ k ih =>
    intro h
    rw [nz, nz, ih (by omega), cSet_at, if_neg (show ¬ (b + k = p) by omega)]
theorem nz_set {c : Nat → Nat} {p v b : Nat} : ∀ k : Nat, b ≤ p → p < b + k → nz (cSet c p v) b k + (if c p = 0 then 0 else 1) = nz c b k + (if v = 0 then 0 else 1) := by
  intro k
  induction k with
  | zero => intro h1 h2; omega
  | succ k ih =>
    intro h1 h2
    rw [nz, nz, cSet_at]
    by_cases hp : b + k = p
    · rw [if_pos hp, nz_out k (by omega), hp]; omega
    · rw [if_neg hp]
      have := ih h1 (by omega)
      omega
theorem cn_out {c : Nat → Nat} {p v w : Nat} : ∀ k : Nat, k ≤ p → cn (cSet c p v) w k = cn c w k := by
  intro k
  induction k with
  | zero => intro _; rfl
  | succ k ih =>
    intro h
    rw [cn, cn, ih (by omega), cSet_at, if_neg (show ¬ (k = p) by omega)]
theorem cn_set {c : Nat → Nat} {p v w : Nat} : ∀ k : Nat, p < k → cn (cSet c p v) w k + (if c p = w then 1 else 0) = cn c w k + (if v = w then 1 else 0) := by
  intro k
  induction k with
  | zero => intro h; omega
  | succ k ih =>
    intro h
    rw [cn, cn, cSet_at]
    by_cases hp : k = p
    · rw [if_pos hp, cn_out k (by omega), hp]; omega
    · rw [if_neg hp]
      have := ih (by omega)
      omega
theorem cn_nz {c : Nat → Nat} : ∀ k : Nat, cn c 0 k + nz c 0 k = k := by
  intro k
  induction k with
  | zero => rfl
  | succ k ih =>
    rw [cn, nz, Nat.zero_add]
    by_cases h : c k = 0
    · rw [if_pos h, if_pos h]; omega
    · rw [if_neg h, if_neg h]; omega
theorem nz_le {c : Nat → Nat} {b : Nat} : ∀ k : Nat, nz c b k ≤ k := by
  intro k
  induction k with
  | zero => exact Nat.le_refl _
  | succ k ih => rw [nz]; split <;> omega
theorem cn_le {c : Nat → Nat} {v : Nat} : ∀ k : Nat, cn c v k ≤ k := by
  intro k
  induction k with
  | zero => exact Nat.le_refl _
  | succ k ih => rw [cn]; split <;> omega
theorem nz_congr {c d : Nat → Nat} {b : Nat} : ∀ k : Nat, (∀ q, b ≤ q → q < b + k → c q = d q) → nz c b k = nz d b k := by
  intro k
  induction k with
  | zero => intro _; rfl
  | succ k ih => intro h; rw [nz, nz, ih (fun q h1 h2 => h q h1 (by omega)), h (b + k) (by omega) (by omega)]
theorem cn_congr {c d : Nat → Nat} {v : Nat} : ∀ k : Nat, (∀ q, q < k → c q = d q) → cn c v k = cn d v k := by
  intro k
  induction k with
  | zero => intro _; rfl
  | succ k ih => intro h; rw [cn, cn, ih (fun q h1 => h q (by omega)), h k (by omega)]
theorem nz_zero {c : Nat → Nat} {b : Nat} : ∀ k : Nat, nz c b k = 0 → ∀ q, b ≤ q → q < b + k → c q = 0 := by
  intro k
  induction k with
  | zero => intro _ q h1 h2; omega
  | succ k ih =>
    intro h q h1 h2
    rw [nz] at h
    by_cases hq : q = b + k
    · rw [hq]
      by_cases hc : c (b + k) = 0
      · exact hc
      · rw [if_neg hc] at h; omega
    · exact ih (by omega) q h1 (by omega)
theorem nz_all0 {c : Nat → Nat} {b : Nat} : ∀ k : Nat, (∀ q, b ≤ q → q < b + k → c q = 0) → nz c b k = 0 := by
  intro k
  induction k with
  | zero => intro _; rfl
  | succ k ih => intro h; rw [nz, ih (fun q h1 h2 => h q h1 (by omega)), h (b + k) (by omega) (by omega)]; rfl
theorem nz_app {c : Nat → Nat} {b k : Nat} : ∀ l : Nat, nz c b (k + l) = nz c b k + nz c (b + k) l := by
  intro l
  induction l with
  | zero => rfl
  | succ l ih => rw [show k + (l + 1) = (k + l) + 1 by omega, nz, nz, ih, show b + (k + l) = b + k + l by omega]; omega
/-- stones from place p on, so many, are washed -/
def cWash (c : Nat → Nat) (p k : Nat) : Nat → Nat := fun q => if p ≤ q ∧ q < p + k then 0 else c q
theorem cWash_0 {c : Nat → Nat} {p : Nat} : cWash c p 0 = c := by
  funext q
  unfold cWash
  rw [if_neg (by omega)]
theorem cWash_s {c : Nat → Nat} {p k : Nat} : cSet (cWash c p k) (p + k) 0 = cWash c p (k + 1) := by
  funext q
  unfold cSet cWash
  by_cases h : q = p + k
  · rw [if_pos h, if_pos (by omega)]
  · rw [if_neg h]
    by_cases h2 : p ≤ q ∧ q < p + k
    · rw [if_pos h2, if_pos (by omega)]
    · rw [if_neg h2, if_neg (by omega)]
theorem cWash_a {c : Nat → Nat} {p k l : Nat} : cWash (cWash c p k) (p + k) l = cWash c p (k + l) := by
  funext q
  unfold cWash
  by_cases h : p + k ≤ q ∧ q < p + k + l
  · rw [if_pos h, if_pos (by omega)]
  · rw [if_neg h]
    by_cases h2 : p ≤ q ∧ q < p + k
    · rw [if_pos h2, if_pos (by omega)]
    · rw [if_neg h2, if_neg (by omega)]
theorem cWash_id {c : Nat → Nat} {p k : Nat} (h : ∀ q, p ≤ q → q < p + k → c q = 0) : cWash c p k = c := by
  funext q
  unfold cWash
  by_cases h2 : p ≤ q ∧ q < p + k
  · rw [if_pos h2, h q h2.1 h2.2]
  · rw [if_neg h2]
theorem cWash_lt {c : Nat → Nat} {p k : Nat} (h : ∀ q, c q < 6) : ∀ q, cWash c p k q < 6 := by
  intro q
  unfold cWash
  split
  · decide
  · exact h q
theorem cSet_lt {c : Nat → Nat} {p v : Nat} (h : ∀ q, c q < 6) (hv : v < 6) : ∀ q, cSet c p v q < 6 := by
  intro q
  unfold cSet
  split
  · exact hv
  · exact h q
/-- how many of the stones that are washed were dark -/
theorem dk_wash {c : Nat → Nat} {p k : Nat} (h : p + k ≤ 4096) : dk c = dk (cWash c p k) + nz c p k := by
  have e : 4096 = p + (k + (4096 - p - k)) := by omega
  show nz c 0 4096 = nz (cWash c p k) 0 4096 + nz c p k
  rw [e, nz_app, nz_app, nz_app, nz_app, Nat.zero_add]
  rw [nz_congr (c := cWash c p k) (d := c) (b := 0) p (fun q h1 h2 => by unfold cWash; rw [if_neg (by omega)])]
  rw [nz_all0 (c := cWash c p k) (b := p) k (fun q h1 h2 => by unfold cWash; rw [if_pos (by omega)])]
  rw [nz_congr (c := cWash c p k) (d := c) (b := p + k) _ (fun q h1 h2 => by unfold cWash; rw [if_neg (by omega)])]
  omega
def aSet (p v : Nat) (Y : aY) : aY := (cSet (yd_c Y) p v, yd_n Y, yd_a Y, yd_t Y, yd_m Y, yd_w Y, yd_k Y)
/-- rows f to t are washed -/
def aWash (f t : Nat) (Y : aY) : aY := (cWash (yd_c Y) (64 * f) (64 * (t + 1 - f)), yd_n Y, yd_a Y, yd_t Y, yd_m Y, yd_w Y + nz (yd_c Y) (64 * f) (64 * (t + 1 - f)), yd_k Y)
def aAnt (i : Nat) (A : aA) (Y : aY) : aY := (yd_c Y, yd_n Y, fun k => if k = i then A else yd_a Y k, yd_t Y, yd_m Y, yd_w Y, yd_k Y)
def pl_ (A : aA) : Nat := 64 * an_y A + an_x A
/-- meetings of ant i with those ahead of it; of all -/
def mt1 (a : Nat → aA) (i : Nat) : Nat → Nat
  | 0 => 0
  | j + 1 => mt1 a i j + if pl_ (a i) = pl_ (a j) then 1 else 0
def mtA (a : Nat → aA) : Nat → Nat
  | 0 => 0
  | i + 1 => mtA a i + mt1 a i i
def wkA (a : Nat → aA) : Nat → Nat
  | 0 => 0
  | i + 1 => wkA a i + an_w (a i)
def csum (c : Nat → Nat) : Nat → Nat
  | 0 => 0
  | v + 1 => csum c v + v * cn c v 4096
def meB (a : Nat → aA) (n i : Nat) : Bool := (List.range n).any fun j => j != i && pl_ (a j) == pl_ (a i)
def hwB (a : Nat → aA) (n : Nat) : Bool := (List.range n).any fun j => anP (a j) != 0
