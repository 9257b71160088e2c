/-! tokens: in words of numbers -/
/-- the byte at a place; 999 behind the end -/
def bt (T : Nat → Nat) (tl p : Nat) : Nat := if p < tl then T p else 999
def lB (b : Nat) : Bool := decide (97 ≤ b) && decide (b ≤ 122)
def dB (b : Nat) : Bool := decide (48 ≤ b) && decide (b ≤ 57)
def bB (b : Nat) : Bool := b == 32 || b == 10
def sB_ (b : Nat) : Bool := b == 40 || b == 41 || b == 91 || b == 93 || b == 59 || b == 44 || b == 43 || b == 45 || b == 42 || b == 47 || b == 60 || b == 62 || b == 61
theorem lB_t {b : Nat} : lB b = true ↔ 97 ≤ b ∧ b ≤ 122 := by unfold lB; rw [Bool.and_eq_true, decide_eq_true_iff, decide_eq_true_iff]
theorem dB_t {b : Nat} : dB b = true ↔ 48 ≤ b ∧ b ≤ 57 := by unfold dB; rw [Bool.and_eq_true, decide_eq_true_iff, decide_eq_true_iff]
theorem bB_t {b : Nat} : bB b = true ↔ b = 32 ∨ b = 10 := by unfold bB; rw [Bool.or_eq_true, beq_iff_eq, beq_iff_eq]
def skF (T : Nat → Nat) (tl : Nat) : Nat → Nat → Nat
  | 0, p => p
  | f + 1, p => if bB (bt T tl p) then skF T tl f (p + 1) else p
def sk (T : Nat → Nat) (tl p : Nat) : Nat := skF T tl 2001 p
/-- one byte more of a word, or of a number -/
def wB (w : Bool) (b : Nat) : Bool := dB b || (w && lB b)
def rnF (T : Nat → Nat) (tl : Nat) (w : Bool) : Nat → Nat → Nat
  | 0, p => p
  | f + 1, p => if wB w (bt T tl p) then rnF T tl w f (p + 1) else p
def rnE (T : Nat → Nat) (tl : Nat) (w : Bool) (p : Nat) : Nat := rnF T tl w 2001 (p + 1)
def pkN (T : Nat → Nat) (s : Nat) : Nat → Nat
  | 0 => 0
  | k + 1 => pkN T s k * 37 + cv (T (s + k))
def nuN (T : Nat → Nat) (s : Nat) : Nat → Nat
  | 0 => 0
  | k + 1 => nuN T s k * 10 + (T (s + k) - 48)
/-- the kind of a word by its number: from word w on -/
def kwF (key : Nat) : Nat → Nat → Nat
  | 0, _ => 2
  | f + 1, w => if pk (kwB w) = key then 200 + w else kwF key f (w + 1)
def kwK (key : Nat) : Nat := kwF key 33 0
/-- kind and end of the token at a place -/
def tkE (T : Nat → Nat) (tl p : Nat) : Nat × Nat :=
  if tl ≤ p then (0, p)
  else if lB (T p) then (if rnE T tl true p - p ≤ 10 then (kwK (pkN T p (rnE T tl true p - p)), rnE T tl true p) else (1, p))
  else if dB (T p) then (if rnE T tl false p - p ≤ 6 then (3, rnE T tl false p) else (1, p))
  else if (T p = 60 ∨ T p = 62) ∧ bt T tl (p + 1) = 61 then (if T p = 60 then 128 else 129, p + 2)
  else if sB_ (T p) then (T p, p + 1)
  else (1, p)
theorem skF_ge {T : Nat → Nat} {tl : Nat} : ∀ f p : Nat, p ≤ skF T tl f p ∧ (p ≤ tl → skF T tl f p ≤ tl) := by
  intro f
  induction f with
  | zero => intro p; exact ⟨Nat.le_refl _, fun h => h⟩
  | succ f ih =>
    intro p
    rw [skF]
    split
    · next h =>
      have := ih (p + 1)
      refine ⟨by omega, fun hp => this.2 ?_⟩
      rw [bB_t] at h
      unfold bt at h
      split at h
      · omega
      · omega
    · exact ⟨Nat.le_refl _, fun h => h⟩
theorem skF_stop {T : Nat → Nat} {tl : Nat} : ∀ f p : Nat, tl < f + p → bB (bt T tl (skF T tl f p)) = false := by
  intro f
  induction f with
  | zero =>
    intro p hp
    rw [skF]
    unfold bt
    rw [if_neg (by omega)]
    rfl
  | succ f ih =>
    intro p hp
    rw [skF]
    split
    · exact ih (p + 1) (by omega)
    · next h => simpa using h
theorem rnF_ge {T : Nat → Nat} {tl : Nat} {w : Bool} : ∀ f p : Nat, p ≤ rnF T tl w f p ∧ (p ≤ tl → rnF T tl w f p ≤ tl) ∧ ∀ q, p ≤ q → q < rnF T tl w f p → wB w (bt T tl q) = true := by
  intro f
  induction f with
  | zero => intro p; exact ⟨Nat.le_refl _, fun h => h, fun q h1 h2 => by rw [rnF] at h2; omega⟩
  | succ f ih =>
    intro p
    rw [rnF]
    split
    · next h =>
      have := ih (p + 1)
      refine ⟨by omega, fun hp => this.2.1 ?_, fun q h1 h2 => ?_⟩
      · by_cases e : p < tl
        · omega
        · unfold bt at h
          rw [if_neg e] at h
          cases w <;> exact absurd h (by decide)
      · by_cases e : q = p
        · rw [e]; exact h
        · exact this.2.2 q (by omega) h2
    · exact ⟨Nat.le_refl _, fun h => h, fun q h1 h2 => by omega⟩
theorem rnF_stop {T : Nat → Nat} {tl : Nat} {w : Bool} : ∀ f p : Nat, tl < f + p → wB w (bt T tl (rnF T tl w f p)) = false := by
  intro f
  induction f with
  | zero =>
    intro p hp
    rw [rnF]
    unfold bt
    rw [if_neg (by omega)]
    cases w <;> rfl
  | succ f ih =>
    intro p hp
    rw [rnF]
    split
    · exact ih (p + 1) (by omega)
    · next h => simpa using h
/-- all tokens: their kinds, starts, ends -/
def tkP (T : Nat → Nat) (tl : Nat) : Nat → Nat
  | 0 => sk T tl 0
  | i + 1 => sk T tl (tkE T tl (tkP T tl i)).2
def kd0 (T : Nat → Nat) (tl i : Nat) : Nat := (tkE T tl (tkP T tl i)).1
/-- the first token, from i on, that is none -/
def tkN (T : Nat → Nat) (tl : Nat) : Nat → Nat → Nat
  | 0, i => i
  | f + 1, i => if kd0 T tl i ≤ 1 then i else tkN T tl f (i + 1)
theorem kwF_ge {key : Nat} : ∀ f w : Nat, kwF key f w = 2 ∨ (200 + w ≤ kwF key f w ∧ kwF key f w < 200 + w + f) := by
  intro f
  induction f with
  | zero => intro w; exact Or.inl rfl
  | succ f ih =>
    intro w
    rw [kwF]
    split
    · exact Or.inr ⟨Nat.le_refl _, by omega⟩
    · rcases ih (w + 1) with h | h
      · exact Or.inl h
      · exact Or.inr ⟨by omega, by omega⟩
/-- a token leads on, and stays in the tape -/
theorem tkE_ok {T : Nat → Nat} {tl p : Nat} (h : 2 ≤ (tkE T tl p).1) : p < (tkE T tl p).2 ∧ (tkE T tl p).2 ≤ tl ∧ p < tl := by
  unfold tkE at h ⊢
  split
  · next h1 => rw [if_pos h1] at h; have h0 : 2 ≤ 0 := h; omega
  next h1 =>
  rw [if_neg h1] at h
  have r1 := rnF_ge (T := T) (tl := tl) (w := true) 2001 (p + 1)
  have r2 := rnF_ge (T := T) (tl := tl) (w := false) 2001 (p + 1)
  split
  · next h2 =>
    rw [if_pos h2] at h
    split
    · exact ⟨r1.1, r1.2.1 (by omega), by omega⟩
    · next h3 => rw [if_neg h3] at h; have h0 : 2 ≤ 1 := h; omega
  next h2 =>
  rw [if_neg h2] at h
  split
  · next h4 =>
    rw [if_pos h4] at h
    split
    · exact ⟨r2.1, r2.2.1 (by omega), by omega⟩
    · next h5 => rw [if_neg h5] at h; have h0 : 2 ≤ 1 := h; omega
  next h4 =>
  rw [if_neg h4] at h
  split
  · next h5 =>
    have : p + 1 < tl := by
      by_cases e : p + 1 < tl
      · exact e
      · have := h5.2
        unfold bt at this
        rw [if_neg e] at this
        exact absurd this (by decide)
    exact ⟨by show p < p + 2; omega, by show p + 2 ≤ tl; omega, by omega⟩
  next h5 =>
  rw [if_neg h5] at h
  split
  · exact ⟨by show p < p + 1; omega, by show p + 1 ≤ tl; omega, by omega⟩
  · next h6 => rw [if_neg h6] at h; have h0 : 2 ≤ 1 := h; omega
theorem tkP_le {T : Nat → Nat} {tl : Nat} : ∀ i : Nat, (∀ j, j < i → 2 ≤ kd0 T tl j) → tkP T tl i ≤ tl := by
  intro i
  induction i with
  | zero => intro _; exact (skF_ge 2001 0).2 (Nat.zero_le _)
  | succ i ih =>
    intro h
    have := tkE_ok (h i (by omega))
    exact (skF_ge 2001 _).2 this.2.1
theorem tkN_ok {T : Nat → Nat} {tl : Nat} : ∀ f i : Nat, (∀ j, j < i → 2 ≤ kd0 T tl j) → (∀ j, j < tkN T tl f i → 2 ≤ kd0 T tl j) ∧ tkN T tl f i ≤ i + f ∧ i ≤ tkN T tl f i ∧ (tkN T tl f i = i + f ∨ kd0 T tl (tkN T tl f i) ≤ 1) := by
  intro f
  induction f with
  | zero => intro i h; exact ⟨h, Nat.le_refl _, Nat.le_refl _, Or.inl rfl⟩
  | succ f ih =>
    intro i h
    rw [tkN]
    split
    · next h1 => exact ⟨h, by omega, Nat.le_refl _, Or.inr h1⟩
    · next h1 =>
      have := ih (i + 1) (fun j hj => by
        by_cases e : j = i
        · rw [e]; omega
        · exact h j (by omega))
      refine ⟨this.1, by omega, by omega, ?_⟩
      rcases this.2.2.2 with q | q
      · exact Or.inl (by omega)
      · exact Or.inr q
/-- how many tokens; their kinds, the last one's too -/
def nT (T : Nat → Nat) (tl : Nat) : Nat := tkN T tl 400 0
def kdT (T : Nat → Nat) (tl i : Nat) : Nat := if i < nT T tl then kd0 T tl i else if tkP T tl i < tl then 1 else 0
def lnT (T : Nat → Nat) (tl i : Nat) : Nat := (tkE T tl (tkP T tl i)).2 - tkP T tl i
theorem nT_le {T : Nat → Nat} {tl : Nat} : nT T tl ≤ 400 := by
  have := (tkN_ok (T := T) (tl := tl) 400 0 (fun j hj => by omega)).2.1
  unfold nT
  omega
theorem nT_kd {T : Nat → Nat} {tl j : Nat} (h : j < nT T tl) : 2 ≤ kd0 T tl j := (tkN_ok (T := T) (tl := tl) 400 0 (fun j hj => by omega)).1 j h
theorem nT_end {T : Nat → Nat} {tl : Nat} : nT T tl = 400 ∨ kd0 T tl (nT T tl) ≤ 1 := by
  have := (tkN_ok (T := T) (tl := tl) 400 0 (fun j hj => by omega)).2.2.2
  unfold nT
  rcases this with q | q
  · exact Or.inl (by omega)
  · exact Or.inr q
theorem tkP_ok {T : Nat → Nat} {tl i : Nat} (h : i ≤ nT T tl) : tkP T tl i ≤ tl := tkP_le i (fun j hj => nT_kd (by omega))
/-- words by their numbers -/
def lwB (b : Nat) : Bool := lB b || dB b
theorem cv_ok {b : Nat} (h : lwB b = true) : 1 ≤ cv b ∧ cv b ≤ 36 := by
  unfold lwB at h
  rw [Bool.or_eq_true, lB_t, dB_t] at h
  unfold cv
  split <;> omega
theorem cv_inj {a b : Nat} (ha : lwB a = true) (hb : lwB b = true) (h : cv a = cv b) : a = b := by
  unfold lwB at ha hb
  rw [Bool.or_eq_true, lB_t, dB_t] at ha hb
  unfold cv at h
  split at h <;> split at h <;> omega
theorem pkN_pos {T : Nat → Nat} {s k : Nat} (h : lwB (T (s + k)) = true) : 0 < pkN T s (k + 1) := by
  have := cv_ok h
  rw [pkN]
  omega
theorem pkN_inj {T U : Nat → Nat} {s u : Nat} : ∀ k l : Nat, (∀ j, j < k → lwB (T (s + j)) = true) → (∀ j, j < l → lwB (U (u + j)) = true) → pkN T s k = pkN U u l → k = l ∧ ∀ j, j < k → T (s + j) = U (u + j) := by
  intro k
  induction k with
  | zero =>
    intro l h1 h2 h
    match l with
    | 0 => exact ⟨rfl, fun j hj => by omega⟩
    | l + 1 =>
      have := pkN_pos (T := U) (s := u) (k := l) (h2 l (by omega))
      rw [← h, pkN] at this
      omega
  | succ k ih =>
    intro l h1 h2 h
    match l with
    | 0 =>
      have := pkN_pos (T := T) (s := s) (k := k) (h1 k (by omega))
      rw [h, pkN] at this
      omega
    | l + 1 =>
      rw [pkN, pkN] at h
      have c1 := cv_ok (h1 k (by omega))
      have c2 := cv_ok (h2 l (by omega))
      have e1 : cv (T (s + k)) = cv (U (u + l)) := by omega
      have e2 : pkN T s k = pkN U u l := by omega
      obtain ⟨e3, e4⟩ := ih l (fun j hj => h1 j (by omega)) (fun j hj => h2 j (by omega)) e2
      subst e3
      refine ⟨rfl, fun j hj => ?_⟩
      by_cases e : j = k
      · rw [e]; exact cv_inj (h1 k (by omega)) (h2 k (by omega)) e1
      · exact e4 j (by omega)
theorem pkN_congr {T U : Nat → Nat} {s u : Nat} : ∀ k : Nat, (∀ j, j < k → T (s + j) = U (u + j)) → pkN T s k = pkN U u k := by
  intro k
  induction k with
  | zero => intro _; rfl
  | succ k ih => intro h; rw [pkN, pkN, ih (fun j hj => h j (by omega)), h k (by omega)]
theorem pkN_lt {T : Nat → Nat} {s : Nat} : ∀ k : Nat, (∀ j, j < k → lwB (T (s + j)) = true) → pkN T s k < 37 ^ k := by
  intro k
  induction k with
  | zero => intro _; exact Nat.one_pos
  | succ k ih =>
    intro h
    have h1 := ih (fun j hj => h j (by omega))
    have h2 := cv_ok (h k (by omega))
    rw [pkN, Nat.pow_succ]
    omega
theorem kw_ok : ∀ w : Nat, w < 33 → pk (kwB w) = pkN (fun j => (kwB w).getD j 0) 0 (kwB w).length ∧ (kwB w).length ≤ 8 ∧ ∀ j, j < (kwB w).length → lwB ((kwB w).getD j 0) = true := by decide +kernel
