/-! texts and their tokens -/
def spn (f : Nat → Bool) : List Nat → Nat
  | [] => 0
  | b :: l => if f b then spn f l + 1 else 0
theorem spn_le {f : Nat → Bool} : ∀ B : List Nat, spn f B ≤ B.length := by
  intro B
  induction B with
  | nil => exact Nat.le_refl _
  | cons b l ih =>
    rw [spn]
    split
    · exact Nat.succ_le_succ ih
    · exact Nat.zero_le _
theorem spn_t {f : Nat → Bool} : ∀ (B : List Nat) (j : Nat), j < spn f B → f (B.getD j 0) = true := by
  intro B
  induction B with
  | nil => intro j hj; exact absurd hj (Nat.not_lt_zero j)
  | cons b l ih =>
    intro j hj
    rw [spn] at hj
    split at hj
    · next h =>
      match j with
      | 0 => exact h
      | j + 1 => exact ih j (by omega)
    · exact absurd hj (Nat.not_lt_zero j)
theorem spn_f {f : Nat → Bool} : ∀ B : List Nat, spn f B < B.length → f (B.getD (spn f B) 0) = false := by
  intro B
  induction B with
  | nil => intro h; exact absurd h (Nat.not_lt_zero _)
  | cons b l ih =>
    intro h
    rw [spn] at h ⊢
    split at h
    · next e =>
      rw [if_pos e]
      exact ih (Nat.lt_of_succ_lt_succ h)
    · next e =>
      rw [if_neg e]
      simpa using e
def gB (B : List Nat) (j : Nat) : Nat := B.getD j 0
/-- kind, value and length of the token that a text begins with -/
def lx1 (B : List Nat) : Nat × Nat × Nat :=
  if lB (gB B 0) then (if spn lwB B ≤ 10 then (kwK (pkN (gB B) 0 (spn lwB B)), pkN (gB B) 0 (spn lwB B), spn lwB B) else (1, 0, 0))
  else if dB (gB B 0) then (if spn dB B ≤ 6 then (3, nuN (gB B) 0 (spn dB B), spn dB B) else (1, 0, 0))
  else if (gB B 0 = 60 ∨ gB B 0 = 62) ∧ gB B 1 = 61 then (if gB B 0 = 60 then 128 else 129, 0, 2)
  else if sB_ (gB B 0) then (gB B 0, 0, 1)
  else (1, 0, 0)
def lxF : Nat → List Nat → Option (List (Nat × Nat))
  | 0, _ => none
  | f + 1, B => if B.length = 0 then some [] else if bB (gB B 0) then lxF f (B.drop 1) else if 2 ≤ (lx1 B).1 then (lxF f (B.drop (lx1 B).2.2)).map (fun K => ((lx1 B).1, (lx1 B).2.1) :: K) else none
/-- a byte with which no token goes on -/
def nwB (b : Nat) : Bool := !lwB b && b != 61
/-- the last byte ends its token -/
def clB (B : List Nat) : Bool := !lwB (gB B (B.length - 1)) && gB B (B.length - 1) != 60 && gB B (B.length - 1) != 62
def Seg (T : Nat → Nat) (tl : Nat) : Nat → List (Nat × Nat) → Nat → Prop
  | p, [], p' => sk T tl p = sk T tl p'
  | p, t :: K, p' => (tkE T tl (sk T tl p)).1 = t.1 ∧ 2 ≤ t.1 ∧ (t.1 = 2 → pkN T (sk T tl p) ((tkE T tl (sk T tl p)).2 - sk T tl p) = t.2) ∧ (t.1 = 3 → nuN T (sk T tl p) ((tkE T tl (sk T tl p)).2 - sk T tl p) = t.2) ∧ Seg T tl (tkE T tl (sk T tl p)).2 K p'
section Lex
variable {T : Nat → Nat} {tl : Nat}
theorem Seg_sk {K : List (Nat × Nat)} {p p1 p' : Nat} (h : sk T tl p = sk T tl p1) (hs : Seg T tl p1 K p') : Seg T tl p K p' := by
  cases K with
  | nil => exact h.trans hs
  | cons t K =>
    unfold Seg at hs ⊢
    rw [h]
    exact hs
theorem Seg_app : ∀ {K1 : List (Nat × Nat)} {K2 : List (Nat × Nat)} {p p1 p2 : Nat}, Seg T tl p K1 p1 → Seg T tl p1 K2 p2 → Seg T tl p (K1 ++ K2) p2 := by
  intro K1
  induction K1 with
  | nil => intro K2 p p1 p2 h1 h2; exact Seg_sk h1 h2
  | cons t K ih =>
    intro K2 p p1 p2 h1 h2
    obtain ⟨a1, a2, a3, a4, a5⟩ := h1
    exact ⟨a1, a2, a3, a4, ih a5 h2⟩
theorem skF_fuel : ∀ f p : Nat, tl < f + p → skF T tl (f + 1) p = skF T tl f p := by
  intro f
  induction f with
  | zero =>
    intro p hp
    have e : bB (bt T tl p) = false := by
      unfold bt
      rw [if_neg (by omega)]
      rfl
    rw [skF, skF, e]
    rfl
  | succ f ih =>
    intro p hp
    rw [skF, ih (p + 1) (by omega)]
    rfl
theorem sk_blank (htl : tl ≤ 2000) {p : Nat} (h : bB (bt T tl p) = true) : sk T tl p = sk T tl (p + 1) := by
  show skF T tl (2000 + 1) p = skF T tl (2000 + 1) (p + 1)
  rw [skF_fuel 2000 (p + 1) (by omega), skF, if_pos h]
theorem sk_here {p : Nat} (h : bB (bt T tl p) = false) : sk T tl p = p := by
  show skF T tl (2000 + 1) p = p
  rw [skF, h]
  rfl
theorem rn_eq (htl : tl ≤ 2000) {w : Bool} {p n : Nat} (h1 : 1 ≤ n) (ht : ∀ j, j < n → wB w (bt T tl (p + j)) = true) (hf : wB w (bt T tl (p + n)) = false) : rnE T tl w p = p + n := by
  obtain ⟨g1, g2, g3⟩ := rnF_ge (T := T) (tl := tl) (w := w) 2001 (p + 1)
  have g4 := rnF_stop (T := T) (tl := tl) (w := w) 2001 (p + 1) (by omega)
  show rnF T tl w 2001 (p + 1) = p + n
  generalize rnF T tl w 2001 (p + 1) = e at g1 g2 g3 g4
  rcases Nat.lt_trichotomy e (p + n) with h | h | h
  · have := ht (e - p) (by omega)
    rw [show p + (e - p) = e by omega, g4] at this
    exact absurd this (by decide)
  · exact h
  · have := g3 (p + n) (by omega) h
    rw [hf] at this
    exact absurd this (by decide)
theorem wB_lw {b : Nat} : wB true b = lwB b := by
  unfold wB lwB
  cases lB b <;> cases dB b <;> rfl
theorem wB_d {b : Nat} : wB false b = dB b := by
  unfold wB
  cases dB b <;> rfl
theorem nuN_congr {U : Nat → Nat} {s u : Nat} : ∀ k : Nat, (∀ j, j < k → T (s + j) = U (u + j)) → nuN T s k = nuN U u k := by
  intro k
  induction k with
  | zero => intro _; rfl
  | succ k ih => intro h; rw [nuN, nuN, ih (fun j hj => h j (by omega)), h k (by omega)]
theorem gB_out {B : List Nat} {j : Nat} (h : B.length ≤ j) : gB B j = 0 := by
  unfold gB
  rw [List.getD_eq_getElem?_getD, List.getElem?_eq_none h]
  rfl
theorem gB_drop {B : List Nat} {n j : Nat} : gB (B.drop n) j = gB B (n + j) := by
  unfold gB
  rw [List.getD_eq_getElem?_getD, List.getD_eq_getElem?_getD, List.getElem?_drop]
theorem lw_of_l {b : Nat} (h : lB b = true) : lwB b = true := by unfold lwB; rw [h]; rfl
theorem lw_of_d {b : Nat} (h : dB b = true) : lwB b = true := by unfold lwB; rw [h, Bool.or_true]
theorem d_of_lw {b : Nat} (h : lwB b = false) : dB b = false := by
  unfold lwB at h
  rw [Bool.or_eq_false_iff] at h
  exact h.2
theorem nw_t {b : Nat} (h : nwB b = true) : lwB b = false ∧ b ≠ 61 := by
  unfold nwB at h
  rw [Bool.and_eq_true] at h
  refine ⟨?_, ?_⟩
  · have := h.1
    revert this
    cases lwB b <;> decide
  · exact bne_iff_ne.mp h.2
theorem cl_t {B : List Nat} (h : clB B = true) : lwB (gB B (B.length - 1)) = false ∧ gB B (B.length - 1) ≠ 60 ∧ gB B (B.length - 1) ≠ 62 := by
  unfold clB at h
  rw [Bool.and_eq_true, Bool.and_eq_true] at h
  obtain ⟨⟨h1, h2⟩, h3⟩ := h
  refine ⟨?_, bne_iff_ne.mp h2, bne_iff_ne.mp h3⟩
  revert h1
  cases lwB (gB B (B.length - 1)) <;> decide
theorem tok_ok (htl : tl ≤ 2000) {B : List Nat} {p : Nat} (hA : ∀ j, j < B.length → T (p + j) = gB B j) (hp : p + B.length ≤ tl) (h0 : 0 < B.length) (hE : clB B = true ∨ nwB (bt T tl (p + B.length)) = true) (h : 2 ≤ (lx1 B).1) : tkE T tl p = ((lx1 B).1, p + (lx1 B).2.2) ∧ 1 ≤ (lx1 B).2.2 ∧ (lx1 B).2.2 ≤ B.length ∧ ((lx1 B).1 = 2 → pkN T p (lx1 B).2.2 = (lx1 B).2.1) ∧ ((lx1 B).1 = 3 → nuN T p (lx1 B).2.2 = (lx1 B).2.1) := by
  have hb : ∀ j, j < B.length → bt T tl (p + j) = gB B j := fun j hj => by
    unfold bt
    rw [if_pos (by omega)]
    exact hA j hj
  have e0 : T p = gB B 0 := hA 0 h0
  have hE2 : ∀ {j}, j + 1 = B.length → lwB (gB B j) = true ∨ gB B j = 60 ∨ gB B j = 62 → lwB (bt T tl (p + B.length)) = false ∧ bt T tl (p + B.length) ≠ 61 := fun {j} hj hc => by
    rcases hE with g | g
    · have := cl_t g
      rw [show B.length - 1 = j by omega] at this
      rcases hc with c | c | c
      · rw [this.1] at c; exact absurd c (by decide)
      · exact absurd c this.2.1
      · exact absurd c this.2.2
    · exact nw_t g
  by_cases l : lB (gB B 0) = true
  · by_cases n10 : spn lwB B ≤ 10
    · have e : lx1 B = (kwK (pkN (gB B) 0 (spn lwB B)), pkN (gB B) 0 (spn lwB B), spn lwB B) := by unfold lx1; rw [if_pos l, if_pos n10]
      rw [e]
      have n1 : 1 ≤ spn lwB B := by
        match hB : B, h0 with
        | b :: L, _ =>
          have l2 : lB b = true := l
          rw [spn, if_pos (lw_of_l l2)]
          omega
      have nl := spn_le (f := lwB) B
      have hr : rnE T tl true p = p + spn lwB B := rn_eq htl n1 (fun j hj => by rw [wB_lw, hb j (by omega)]; exact spn_t B j hj) (by
        rw [wB_lw]
        by_cases q : spn lwB B < B.length
        · rw [hb _ q]; exact spn_f B q
        · have q2 : spn lwB B = B.length := by omega
          rw [q2]
          exact (hE2 (j := spn lwB B - 1) (by omega) (Or.inl (spn_t B _ (by omega)))).1)
      have hk : pkN T p (spn lwB B) = pkN (gB B) 0 (spn lwB B) := pkN_congr _ (fun j hj => by rw [hA j (by omega), Nat.zero_add])
      refine ⟨?_, n1, nl, fun _ => hk, fun z => ?_⟩
      · unfold tkE
        rw [if_neg (by omega), e0, if_pos l, hr, show p + spn lwB B - p = spn lwB B by omega, if_pos n10, hk]
      · have z2 : kwK (pkN (gB B) 0 (spn lwB B)) = 3 := z
        have := kwK_ge (pkN (gB B) 0 (spn lwB B))
        omega
    · have e : lx1 B = (1, 0, 0) := by unfold lx1; rw [if_pos l, if_neg n10]
      rw [e] at h
      exact absurd h (by decide)
  · by_cases d : dB (gB B 0) = true
    · by_cases n6 : spn dB B ≤ 6
      · have e : lx1 B = (3, nuN (gB B) 0 (spn dB B), spn dB B) := by unfold lx1; rw [if_neg l, if_pos d, if_pos n6]
        rw [e]
        have n1 : 1 ≤ spn dB B := by
          match hB : B, h0 with
          | b :: L, _ =>
            have l2 : dB b = true := d
            rw [spn, if_pos l2]
            omega
        have nl := spn_le (f := dB) B
        have hr : rnE T tl false p = p + spn dB B := rn_eq htl n1 (fun j hj => by rw [wB_d, hb j (by omega)]; exact spn_t B j hj) (by
          rw [wB_d]
          by_cases q : spn dB B < B.length
          · rw [hb _ q]; exact spn_f B q
          · have q2 : spn dB B = B.length := by omega
            rw [q2]
            exact d_of_lw (hE2 (j := spn dB B - 1) (by omega) (Or.inl (lw_of_d (spn_t B _ (by omega))))).1)
        have hk : nuN T p (spn dB B) = nuN (gB B) 0 (spn dB B) := nuN_congr _ (fun j hj => by rw [hA j (by omega), Nat.zero_add])
        refine ⟨?_, n1, nl, fun z => absurd (show (3 : Nat) = 2 from z) (by decide), fun _ => hk⟩
        unfold tkE
        rw [if_neg (by omega), e0, if_neg l, if_pos d, hr, show p + spn dB B - p = spn dB B by omega, if_pos n6]
      · have e : lx1 B = (1, 0, 0) := by unfold lx1; rw [if_neg l, if_pos d, if_neg n6]
        rw [e] at h
        exact absurd h (by decide)
    · by_cases w : (gB B 0 = 60 ∨ gB B 0 = 62) ∧ gB B 1 = 61
      · have e : lx1 B = (if gB B 0 = 60 then 128 else 129, 0, 2) := by unfold lx1; rw [if_neg l, if_neg d, if_pos w]
        have h1 : 1 < B.length := by
          by_cases q : 1 < B.length
          · exact q
          · have := gB_out (B := B) (j := 1) (by omega)
            rw [w.2] at this
            exact absurd this (by decide)
        rw [e]
        refine ⟨?_, (Nat.le_succ 1 : 1 ≤ 2), h1, fun z => ?_, fun z => ?_⟩
        · unfold tkE
          rw [if_neg (by omega), e0, if_neg l, if_neg d, hb 1 h1, if_pos w]
        · have z2 : (if gB B 0 = 60 then 128 else 129) = 2 := z
          split at z2 <;> omega
        · have z2 : (if gB B 0 = 60 then 128 else 129) = 3 := z
          split at z2 <;> omega
      · by_cases s : sB_ (gB B 0) = true
        · have e : lx1 B = (gB B 0, 0, 1) := by unfold lx1; rw [if_neg l, if_neg d, if_neg w, if_pos s]
          rw [e]
          have s2 := sB_t.mp s
          have w2 : ¬ ((gB B 0 = 60 ∨ gB B 0 = 62) ∧ bt T tl (p + 1) = 61) := fun ⟨z1, z2⟩ => by
            by_cases q : 1 < B.length
            · rw [hb 1 q] at z2; exact w ⟨z1, z2⟩
            · have q2 : B.length = 1 := by omega
              have := (hE2 (j := 0) (by omega) (Or.inr z1)).2
              rw [q2] at this
              exact this z2
          refine ⟨?_, Nat.le_refl 1, h0, fun z => ?_, fun z => ?_⟩
          · unfold tkE
            rw [if_neg (by omega), e0, if_neg l, if_neg d, if_neg w2, if_pos s]
          · have z2 : gB B 0 = 2 := z
            omega
          · have z2 : gB B 0 = 3 := z
            omega
        · have e : lx1 B = (1, 0, 0) := by unfold lx1; rw [if_neg l, if_neg d, if_neg w, if_neg s]
          rw [e] at h
          exact absurd h (by decide)
theorem lx_ok (htl : tl ≤ 2000) : ∀ (f : Nat) (B : List Nat) (p : Nat) (K : List (Nat × Nat)), lxF f B = some K → (∀ j, j < B.length → T (p + j) = gB B j) → p + B.length ≤ tl → (0 < B.length → clB B = true ∨ nwB (bt T tl (p + B.length)) = true) → Seg T tl p K (p + B.length) := by
  intro f
  induction f with
  | zero => intro B p K h; exact absurd (show none = some K from h) (by simp)
  | succ f ih =>
    intro B p K h hA hp hE
    rw [lxF] at h
    by_cases c0 : B.length = 0
    · rw [if_pos c0] at h
      cases h
      rw [c0]
      exact (rfl : sk T tl p = sk T tl p)
    · have h0 : 0 < B.length := by omega
      rw [if_neg c0] at h
      have hb0 : bt T tl p = gB B 0 := by
        unfold bt
        rw [if_pos (by omega)]
        exact hA 0 h0
      have step : ∀ n, 1 ≤ n → n ≤ B.length → ∀ K', lxF f (B.drop n) = some K' → Seg T tl (p + n) K' (p + B.length) := fun n n1 n2 K' hK => by
        have hl : (B.drop n).length = B.length - n := List.length_drop
        have := ih (B.drop n) (p + n) K' hK (fun j hj => by rw [gB_drop, show p + n + j = p + (n + j) by omega]; exact hA _ (by omega)) (by omega) (fun hl2 => by
          rw [hl, show p + n + (B.length - n) = p + B.length by omega]
          refine (hE h0).imp (fun g => ?_) id
          unfold clB at g ⊢
          rw [gB_drop, hl, show n + (B.length - n - 1) = B.length - 1 by omega]
          exact g)
        rw [hl, show p + n + (B.length - n) = p + B.length by omega] at this
        exact this
      by_cases c1 : bB (gB B 0) = true
      · rw [if_pos c1] at h
        exact Seg_sk (sk_blank htl (by rw [hb0]; exact c1)) (step 1 (by omega) (by omega) K h)
      · rw [if_neg c1] at h
        by_cases c2 : 2 ≤ (lx1 B).1
        · rw [if_pos c2] at h
          obtain ⟨K', hK1, hK2⟩ := Option.map_eq_some_iff.mp h
          obtain ⟨t1, t2, t3, t4, t5⟩ := tok_ok htl hA hp h0 (hE h0) c2
          have es : sk T tl p = p := sk_here (by rw [hb0]; simpa using c1)
          rw [← hK2]
          unfold Seg
          rw [es, t1]
          refine ⟨rfl, c2, fun z => ?_, fun z => ?_, step _ t2 t3 K' hK1⟩
          · show pkN T p (p + (lx1 B).2.2 - p) = _
            rw [show p + (lx1 B).2.2 - p = (lx1 B).2.2 by omega]
            exact t4 z
          · show nuN T p (p + (lx1 B).2.2 - p) = _
            rw [show p + (lx1 B).2.2 - p = (lx1 B).2.2 by omega]
            exact t5 z
        · rw [if_neg c2] at h
          exact absurd h (by simp)
/-- all tokens of a tape whose text this is -/
theorem seg_kd : ∀ (K : List (Nat × Nat)) (e p' i : Nat), Seg T tl e K p' → tkP T tl i = sk T tl e → (∀ j, j < K.length → kd0 T tl (i + j) = (K.getD j (0, 0)).1 ∧ 2 ≤ (K.getD j (0, 0)).1 ∧ ((K.getD j (0, 0)).1 = 2 → keyT T tl (i + j) = (K.getD j (0, 0)).2) ∧ ((K.getD j (0, 0)).1 = 3 → numT T tl (i + j) = (K.getD j (0, 0)).2)) ∧ tkP T tl (i + K.length) = sk T tl p' := by
  intro K
  induction K with
  | nil => intro e p' i h hi; exact ⟨fun j hj => absurd hj (Nat.not_lt_zero j), hi.trans h⟩
  | cons t K ih =>
    intro e p' i h hi
    obtain ⟨a1, a2, a3, a4, a5⟩ := h
    obtain ⟨b1, b2⟩ := ih _ p' (i + 1) a5 (by rw [tkP, hi])
    refine ⟨fun j hj => ?_, ?_⟩
    · match j with
      | 0 =>
        refine ⟨?_, a2, fun z => ?_, fun z => ?_⟩
        · show (tkE T tl (tkP T tl i)).1 = t.1
          rw [hi]; exact a1
        · show pkN T (tkP T tl i) ((tkE T tl (tkP T tl i)).2 - tkP T tl i) = t.2
          rw [hi]; exact a3 z
        · show nuN T (tkP T tl i) ((tkE T tl (tkP T tl i)).2 - tkP T tl i) = t.2
          rw [hi]; exact a4 z
      | j + 1 =>
        have := b1 j (Nat.lt_of_succ_lt_succ hj)
        rw [show i + (j + 1) = i + 1 + j by omega]
        exact this
    · rw [show i + (t :: K).length = i + 1 + K.length by simp only [List.length_cons]; omega]
      exact b2
def HK (T : Nat → Nat) (tl : Nat) (K : List (Nat × Nat)) : Prop := ∀ j, j < K.length → kdT T tl j = (K.getD j (0, 0)).1 ∧ j < nT T tl ∧ ((K.getD j (0, 0)).1 = 2 → keyT T tl j = (K.getD j (0, 0)).2) ∧ ((K.getD j (0, 0)).1 = 3 → numT T tl j = (K.getD j (0, 0)).2)
theorem seg_HK {K : List (Nat × Nat)} {p' : Nat} (h : Seg T tl 0 K p') (hl : K.length ≤ 400) : HK T tl K ∧ tkP T tl K.length = sk T tl p' := by
  obtain ⟨a1, a2⟩ := seg_kd K 0 p' 0 h rfl
  rw [Nat.zero_add] at a2
  have hn : K.length ≤ nT T tl := by
    by_cases q : K.length ≤ nT T tl
    · exact q
    · have h1 := a1 (nT T tl) (by omega)
      rw [Nat.zero_add] at h1
      rcases nT_end (T := T) (tl := tl) with z | z
      · omega
      · omega
  refine ⟨fun j hj => ?_, a2⟩
  have h1 := a1 j hj
  rw [Nat.zero_add] at h1
  refine ⟨?_, by omega, h1.2.2.1, h1.2.2.2⟩
  rw [kdT_in (by omega)]
  exact h1.1
theorem seg_end {K : List (Nat × Nat)} (h : Seg T tl 0 K tl) (hl : K.length < 400) : kdT T tl K.length = 0 := by
  obtain ⟨a1, a2⟩ := seg_HK h (by omega)
  have e : sk T tl tl = tl := sk_here (by unfold bt; rw [if_neg (by omega)]; rfl)
  rw [e] at a2
  have k0 : kd0 T tl K.length = 0 := by
    unfold kd0 tkE
    rw [a2, if_pos (Nat.le_refl _)]
  have hn : nT T tl = K.length := by
    by_cases q : K.length < nT T tl
    · have := nT_kd q
      omega
    · by_cases q2 : nT T tl < K.length
      · have h1 := (seg_kd K 0 tl 0 h rfl).1 (nT T tl) q2
        rw [Nat.zero_add] at h1
        rcases nT_end (T := T) (tl := tl) with z | z
        · omega
        · omega
      · omega
  unfold kdT
  rw [hn, if_neg (Nat.lt_irrefl _), a2, if_neg (Nat.lt_irrefl _)]
end Lex
