/-! lists: what is read of tokens, in words of numbers -/
/-- an operation as it is read: its kind, its token -/
abbrev sO : Type := Nat × Nat
abbrev rS : Type := Bool × Nat × List sO
def isA (k : Nat) : Bool := decide (opc k = 3) || decide (opc k = 4)
def pLoop (kd : Nat → Nat) (R : Nat → rS) (q : Nat → Bool) : Nat → rS → rS
  | 0, r => r
  | f + 1, r => if r.1 && q (kd r.2.1) then pLoop kd R q f ((R (r.2.1 + 1)).1, (R (r.2.1 + 1)).2.1, r.2.2 ++ ((R (r.2.1 + 1)).2.2 ++ [(kd r.2.1, r.2.1)])) else r
def qAdd (k : Nat) : Bool := k == 43 || k == 45
def qMul (k : Nat) : Bool := k == 42 || k == 47
def qOr (k : Nat) : Bool := k == 230
def qAnd (k : Nat) : Bool := k == 229
def qCmp (k : Nat) : Bool := k == 60 || k == 62 || k == 61 || k == 128 || k == 129
def qTurn (k : Nat) : Bool := decide (201 ≤ k) && decide (k ≤ 204)
def qSide (k : Nat) : Bool := decide (209 ≤ k) && decide (k ≤ 212)
/-- an ant's word with its name -/
def pAnt (kd : Nat → Nat) (p : Nat) : rS := if kd (p + 1) = 2 then (true, p + 2, [(kd p, p + 1)]) else (false, p + 1, [])
/-- ( sum ), with R for the sum -/
def pGrp (kd : Nat → Nat) (R : Nat → rS) (d p : Nat) (L : List sO) : rS :=
  if 8 ≤ d then (false, p, [])
  else if kd p = 40 then (if (R (p + 1)).1 then (if kd (R (p + 1)).2.1 = 41 then (true, (R (p + 1)).2.1 + 1, (R (p + 1)).2.2 ++ L) else (false, (R (p + 1)).2.1, [])) else (false, (R (p + 1)).2.1, []))
  else (false, p, [])
/-- ( sum , sum ) -/
def pTwo (kd : Nat → Nat) (R : Nat → rS) (d p : Nat) (L : List sO) : rS :=
  if 8 ≤ d then (false, p, [])
  else if kd p = 40 then (if (R (p + 1)).1 then (if kd (R (p + 1)).2.1 = 44 then (if (R ((R (p + 1)).2.1 + 1)).1 then (if kd (R ((R (p + 1)).2.1 + 1)).2.1 = 41 then (true, (R ((R (p + 1)).2.1 + 1)).2.1 + 1, (R (p + 1)).2.2 ++ ((R ((R (p + 1)).2.1 + 1)).2.2 ++ L)) else (false, (R ((R (p + 1)).2.1 + 1)).2.1, [])) else (false, (R ((R (p + 1)).2.1 + 1)).2.1, [])) else (false, (R (p + 1)).2.1, [])) else (false, (R (p + 1)).2.1, []))
  else (false, p, [])
/-- what stands behind a - or a not -/
def pNeg (R : Nat → rS) (d p k : Nat) : rS := if d < 8 then ((R (p + 1)).1, (R (p + 1)).2.1, (R (p + 1)).2.2 ++ [(k, p)]) else (false, p, [])
/-- 0 sum, 1 product, 2 value, 3 test, 4 both, 5 single -/
def pz (kd : Nat → Nat) : Nat → Nat → Nat → Nat → rS
  | 0, _, _, p => (false, p, [])
  | f + 1, 0, d, p => pLoop kd (fun q => pz kd f 1 d q) qAdd 401 (pz kd f 1 d p)
  | f + 1, 1, d, p => pLoop kd (fun q => pz kd f 2 d q) qMul 401 (pz kd f 2 d p)
  | f + 1, 2, d, p =>
    if kd p = 3 ∨ kd p = 220 ∨ kd p = 221 then (true, p + 1, [(kd p, p)])
    else if kd p = 222 ∨ kd p = 223 ∨ kd p = 224 then pAnt kd p
    else if kd p = 225 then pGrp kd (fun q => pz kd f 0 (d + 1) q) d (p + 1) [(225, p)]
    else if kd p = 45 then pNeg (fun q => pz kd f 2 (d + 1) q) d p 4
    else if kd p = 40 then pGrp kd (fun q => pz kd f 0 (d + 1) q) d p []
    else if kd p = 231 ∨ kd p = 232 then pTwo kd (fun q => pz kd f 0 (d + 1) q) d (p + 1) [(kd p, p)]
    else (false, p, [])
  | f + 1, 3, d, p => pLoop kd (fun q => pz kd f 4 d q) qOr 401 (pz kd f 4 d p)
  | f + 1, 4, d, p => pLoop kd (fun q => pz kd f 5 d q) qAnd 401 (pz kd f 5 d p)
  | f + 1, _, d, p =>
    if kd p = 228 then pNeg (fun q => pz kd f 5 (d + 1) q) d p 228
    else if kd p = 91 then (if d < 8 then (if (pz kd f 3 (d + 1) (p + 1)).1 then (if kd (pz kd f 3 (d + 1) (p + 1)).2.1 = 93 then (true, (pz kd f 3 (d + 1) (p + 1)).2.1 + 1, (pz kd f 3 (d + 1) (p + 1)).2.2) else (false, (pz kd f 3 (d + 1) (p + 1)).2.1, [])) else (false, (pz kd f 3 (d + 1) (p + 1)).2.1, [])) else (false, p, []))
    else if kd p = 226 ∨ kd p = 227 then pAnt kd p
    else if (pz kd f 0 d p).1 then (if qCmp (kd (pz kd f 0 d p).2.1) then ((pz kd f 0 d ((pz kd f 0 d p).2.1 + 1)).1, (pz kd f 0 d ((pz kd f 0 d p).2.1 + 1)).2.1, (pz kd f 0 d p).2.2 ++ ((pz kd f 0 d ((pz kd f 0 d p).2.1 + 1)).2.2 ++ [(kd (pz kd f 0 d p).2.1, (pz kd f 0 d p).2.1)])) else (false, (pz kd f 0 d p).2.1, []))
    else (false, (pz kd f 0 d p).2.1, [])
/-- ants' tokens stand in their order, from lo on, ahead of hi -/
def aInc : Nat → Nat → List sO → Prop
  | lo, hi, [] => lo ≤ hi
  | lo, hi, o :: L => if isA o.1 then lo ≤ o.2 ∧ aInc (o.2 + 1) hi L else aInc lo hi L
theorem aInc_le : ∀ {L : List sO} {lo hi : Nat}, aInc lo hi L → lo ≤ hi := by
  intro L
  induction L with
  | nil => intro lo hi h; exact h
  | cons o L ih =>
    intro lo hi h
    rw [aInc] at h
    split at h
    · have := ih h.2; omega
    · exact ih h
theorem aInc_lo : ∀ {L : List sO} {lo lo' hi : Nat}, aInc lo hi L → lo' ≤ lo → aInc lo' hi L := by
  intro L
  induction L with
  | nil => intro lo lo' hi h h2; show lo' ≤ hi; exact Nat.le_trans h2 h
  | cons o L ih =>
    intro lo lo' hi h h2
    rw [aInc] at h ⊢
    split at h
    · next q => rw [if_pos q]; exact ⟨by omega, h.2⟩
    · next q => rw [if_neg q]; exact ih h h2
theorem aInc_app : ∀ {L1 L2 : List sO} {lo mid hi : Nat}, aInc lo mid L1 → aInc mid hi L2 → aInc lo hi (L1 ++ L2) := by
  intro L1
  induction L1 with
  | nil => intro L2 lo mid hi h1 h2; exact aInc_lo h2 h1
  | cons o L ih =>
    intro L2 lo mid hi h1 h2
    show aInc lo hi (o :: (L ++ L2))
    rw [aInc] at h1 ⊢
    split at h1
    · next q => rw [if_pos q]; exact ⟨h1.1, ih h1.2 h2⟩
    · next q => rw [if_neg q]; exact ih h1 h2
theorem aInc_1 {k p lo hi : Nat} (hk : isA k = false) (h : lo ≤ hi) : aInc lo hi [(k, p)] := by
  rw [aInc, if_neg (by rw [hk]; decide)]
  exact h
/-- where reading ends, and how much it has read -/
def rOk (n p : Nat) (r : rS) : Prop := p ≤ r.2.1 ∧ r.2.1 ≤ n ∧ (r.1 = true → p < r.2.1 ∧ r.2.2.length ≤ r.2.1 - p ∧ aInc p r.2.1 r.2.2)
section Pos
variable {kd : Nat → Nat} {n : Nat}
theorem rOk_no {p q : Nat} (h1 : p ≤ q) (h2 : q ≤ n) : rOk n p (false, q, []) := ⟨h1, h2, fun h => absurd (show false = true from h) (by decide)⟩
theorem pLoop_ok (hE : ∀ q, q ≤ n → 2 ≤ kd q → q < n) {R : Nat → rS} (hR : ∀ q, q ≤ n → rOk n q (R q)) {q : Nat → Bool} (hq : ∀ k, q k = true → 2 ≤ k ∧ isA k = false) {p : Nat} : ∀ (f : Nat) (r : rS), rOk n p r → rOk n p (pLoop kd R q f r) := by
  intro f
  induction f with
  | zero => intro r h; exact h
  | succ f ih =>
    intro r h
    rw [pLoop]
    split
    · next g =>
      rw [Bool.and_eq_true] at g
      obtain ⟨g1, g2⟩ := g
      have hk := hq _ g2
      have hlt := hE _ h.2.1 hk.1
      have h3 := h.2.2 g1
      have hr := hR (r.2.1 + 1) (by omega)
      refine ih _ ⟨by have := hr.1; show p ≤ (R (r.2.1 + 1)).2.1; omega, hr.2.1, fun g3 => ?_⟩
      have h4 := hr.2.2 g3
      refine ⟨by show p < (R (r.2.1 + 1)).2.1; omega, ?_, ?_⟩
      · show (r.2.2 ++ ((R (r.2.1 + 1)).2.2 ++ [(kd r.2.1, r.2.1)])).length ≤ (R (r.2.1 + 1)).2.1 - p
        rw [List.length_append, List.length_append]
        show r.2.2.length + ((R (r.2.1 + 1)).2.2.length + 1) ≤ _
        omega
      · exact aInc_app h3.2.2 (aInc_app (aInc_lo h4.2.2 (by omega)) (aInc_1 hk.2 (Nat.le_refl _)))
    · exact h
theorem pAnt_ok (hE : ∀ q, q ≤ n → 2 ≤ kd q → q < n) {p : Nat} (hp : p ≤ n) (hk : isA (kd p) = true) (h2 : 2 ≤ kd p) : rOk n p (pAnt kd p) := by
  have h1 := hE p hp h2
  unfold pAnt
  split
  · next h =>
    have h3 := hE (p + 1) h1 (by omega)
    refine ⟨by show p ≤ p + 2; omega, by show p + 2 ≤ n; omega, fun _ => ⟨by show p < p + 2; omega, by show 1 ≤ p + 2 - p; omega, ?_⟩⟩
    show aInc p (p + 2) [(kd p, p + 1)]
    rw [aInc, if_pos hk]
    exact ⟨by show p ≤ p + 1; omega, by show p + 1 + 1 ≤ p + 2; omega⟩
  · exact rOk_no (by omega) h1
theorem pGrp_ok (hE : ∀ q, q ≤ n → 2 ≤ kd q → q < n) {R : Nat → rS} (hR : ∀ q, q ≤ n → rOk n q (R q)) {d p p0 : Nat} {L : List sO} (h0 : p0 ≤ p) (hp : p ≤ n) (hL : L.length ≤ p + 1 - p0) (hA : ∀ o ∈ L, isA o.1 = false) : rOk n p0 (pGrp kd R d p L) := by
  have hLi : ∀ (K : List sO) (x : Nat), (∀ o ∈ K, isA o.1 = false) → aInc x x K := by
    intro K
    induction K with
    | nil => intro x _; exact Nat.le_refl x
    | cons o K ih =>
      intro x h
      rw [aInc, if_neg (by rw [h o (List.mem_cons_self)]; decide)]
      exact ih x (fun o ho => h o (List.mem_cons_of_mem _ ho))
  unfold pGrp
  split
  · exact rOk_no h0 hp
  split
  · next h1 =>
    have h2 := hE p hp (by omega)
    have hr := hR (p + 1) (by omega)
    have hb := hr.1
    split
    · next h3 =>
      have h4 := hr.2.2 h3
      split
      · next h5 =>
        have h6 := hE _ hr.2.1 (by omega)
        refine ⟨by show p0 ≤ (R (p + 1)).2.1 + 1; omega, by show (R (p + 1)).2.1 + 1 ≤ n; omega, fun _ => ⟨by show p0 < (R (p + 1)).2.1 + 1; omega, ?_, ?_⟩⟩
        · show ((R (p + 1)).2.2 ++ L).length ≤ (R (p + 1)).2.1 + 1 - p0
          rw [List.length_append]
          omega
        · exact aInc_app (aInc_lo h4.2.2 (by omega)) (aInc_lo (hLi L _ hA) (by show (R (p + 1)).2.1 ≤ (R (p + 1)).2.1 + 1; omega))
      · exact rOk_no (by omega) hr.2.1
    · exact rOk_no (by omega) hr.2.1
  · exact rOk_no h0 hp
theorem pTwo_ok (hE : ∀ q, q ≤ n → 2 ≤ kd q → q < n) {R : Nat → rS} (hR : ∀ q, q ≤ n → rOk n q (R q)) {d p p0 k x : Nat} (h0 : p0 < p) (hp : p ≤ n) (hA : isA k = false) : rOk n p0 (pTwo kd R d p [(k, x)]) := by
  unfold pTwo
  split
  · exact rOk_no (by omega) hp
  split
  · next h1 =>
    have h2 := hE p hp (by omega)
    have hr := hR (p + 1) (by omega)
    have hb := hr.1
    split
    · next h3 =>
      have h4 := hr.2.2 h3
      split
      · next h5 =>
        have h6 := hE _ hr.2.1 (by omega)
        have hr2 := hR ((R (p + 1)).2.1 + 1) (by omega)
        have hb2 := hr2.1
        split
        · next h7 =>
          have h8 := hr2.2.2 h7
          split
          · next h9 =>
            have h10 := hE _ hr2.2.1 (by omega)
            refine ⟨by show p0 ≤ (R ((R (p + 1)).2.1 + 1)).2.1 + 1; omega, by show (R ((R (p + 1)).2.1 + 1)).2.1 + 1 ≤ n; omega, fun _ => ⟨by show p0 < (R ((R (p + 1)).2.1 + 1)).2.1 + 1; omega, ?_, ?_⟩⟩
            · show ((R (p + 1)).2.2 ++ ((R ((R (p + 1)).2.1 + 1)).2.2 ++ [(k, x)])).length ≤ (R ((R (p + 1)).2.1 + 1)).2.1 + 1 - p0
              rw [List.length_append, List.length_append]
              show (R (p + 1)).2.2.length + ((R ((R (p + 1)).2.1 + 1)).2.2.length + 1) ≤ _
              omega
            · exact aInc_app (aInc_lo h4.2.2 (by omega)) (aInc_app (aInc_lo h8.2.2 (by omega)) (aInc_1 hA (by show (R ((R (p + 1)).2.1 + 1)).2.1 ≤ (R ((R (p + 1)).2.1 + 1)).2.1 + 1; omega)))
          · exact rOk_no (by omega) hr2.2.1
        · exact rOk_no (by omega) hr2.2.1
      · exact rOk_no (by omega) hr.2.1
    · exact rOk_no (by omega) hr.2.1
  · exact rOk_no (by omega) hp
theorem pNeg_ok {R : Nat → rS} (hR : ∀ q, q ≤ n → rOk n q (R q)) {d p k : Nat} (hp : p < n) (hA : isA k = false) : rOk n p (pNeg R d p k) := by
  unfold pNeg
  split
  · have hr := hR (p + 1) hp
    have hb := hr.1
    refine ⟨by show p ≤ (R (p + 1)).2.1; omega, hr.2.1, fun g => ?_⟩
    have h4 := hr.2.2 g
    refine ⟨by show p < (R (p + 1)).2.1; omega, ?_, ?_⟩
    · show ((R (p + 1)).2.2 ++ [(k, p)]).length ≤ (R (p + 1)).2.1 - p
      rw [List.length_append]
      show (R (p + 1)).2.2.length + 1 ≤ _
      omega
    · exact aInc_app (aInc_lo h4.2.2 (by omega)) (aInc_1 hA (Nat.le_refl _))
  · exact rOk_no (Nat.le_refl _) (by omega)
theorem isA_c {k : Nat} (h : qAdd k = true ∨ qMul k = true ∨ qOr k = true ∨ qAnd k = true ∨ qCmp k = true) : 2 ≤ k ∧ isA k = false := by
  unfold qAdd qMul qOr qAnd qCmp at h
  simp only [Bool.or_eq_true, beq_iff_eq] at h
  rcases (show k = 43 ∨ k = 45 ∨ k = 42 ∨ k = 47 ∨ k = 230 ∨ k = 229 ∨ k = 60 ∨ k = 62 ∨ k = 61 ∨ k = 128 ∨ k = 129 by omega) with rfl | rfl | rfl | rfl | rfl | rfl | rfl | rfl | rfl | rfl | rfl <;> decide
theorem pz_ok (hE : ∀ q, q ≤ n → 2 ≤ kd q → q < n) : ∀ (f t d p : Nat), p ≤ n → rOk n p (pz kd f t d p) := by
  intro f
  induction f with
  | zero => intro t d p hp; exact rOk_no (Nat.le_refl _) hp
  | succ f ih =>
    intro t d p hp
    match t with
    | 0 => exact pLoop_ok hE (fun q hq => ih 1 d q hq) (fun k hk => isA_c (Or.inl hk)) 401 _ (ih 1 d p hp)
    | 1 => exact pLoop_ok hE (fun q hq => ih 2 d q hq) (fun k hk => isA_c (Or.inr (Or.inl hk))) 401 _ (ih 2 d p hp)
    | 2 =>
      rw [pz]
      split
      · next h =>
        have h1 := hE p hp (by omega)
        refine ⟨by show p ≤ p + 1; omega, h1, fun _ => ⟨by show p < p + 1; omega, by show 1 ≤ p + 1 - p; omega, aInc_1 ?_ (by show p ≤ p + 1; omega)⟩⟩
        rcases h with h | h | h <;> rw [h] <;> decide
      split
      · next h => exact pAnt_ok hE hp (by rcases h with h | h | h <;> rw [h] <;> decide) (by omega)
      split
      · next h =>
        have h1 := hE p hp (by omega)
        refine pGrp_ok hE (fun q hq => ih 0 (d + 1) q hq) (by omega) h1 (by show 1 ≤ p + 1 + 1 - p; omega) (fun o ho => ?_)
        rw [List.mem_singleton.mp ho]
        exact (show isA 225 = false by decide)
      split
      · next h => exact pNeg_ok (fun q hq => ih 2 (d + 1) q hq) (hE p hp (by omega)) (by decide)
      split
      · next h => exact pGrp_ok hE (fun q hq => ih 0 (d + 1) q hq) (Nat.le_refl _) hp (Nat.zero_le _) (fun o ho => by cases ho)
      split
      · next h =>
        have h1 := hE p hp (by omega)
        exact pTwo_ok hE (fun q hq => ih 0 (d + 1) q hq) (by omega) h1 (by rcases h with h | h <;> rw [h] <;> decide)
      · exact rOk_no (Nat.le_refl _) hp
    | 3 => exact pLoop_ok hE (fun q hq => ih 4 d q hq) (fun k hk => isA_c (Or.inr (Or.inr (Or.inl hk)))) 401 _ (ih 4 d p hp)
    | 4 => exact pLoop_ok hE (fun q hq => ih 5 d q hq) (fun k hk => isA_c (Or.inr (Or.inr (Or.inr (Or.inl hk))))) 401 _ (ih 5 d p hp)
    | t + 5 =>
      rw [pz]
      split
      · next h => exact pNeg_ok (fun q hq => ih 5 (d + 1) q hq) (hE p hp (by omega)) (by decide)
      split
      · next h =>
        have h1 := hE p hp (by omega)
        split
        · have hr := ih 3 (d + 1) (p + 1) h1
          have hb := hr.1
          split
          · next h3 =>
            have h4 := hr.2.2 h3
            split
            · next h5 =>
              have h6 := hE _ hr.2.1 (by omega)
              refine ⟨by show p ≤ (pz kd f 3 (d + 1) (p + 1)).2.1 + 1; omega, h6, fun _ => ⟨by show p < (pz kd f 3 (d + 1) (p + 1)).2.1 + 1; omega, by show (pz kd f 3 (d + 1) (p + 1)).2.2.length ≤ (pz kd f 3 (d + 1) (p + 1)).2.1 + 1 - p; omega, ?_⟩⟩
              have := aInc_app (aInc_lo h4.2.2 (show p ≤ p + 1 by omega)) (L2 := []) (hi := (pz kd f 3 (d + 1) (p + 1)).2.1 + 1) (by show (pz kd f 3 (d + 1) (p + 1)).2.1 ≤ (pz kd f 3 (d + 1) (p + 1)).2.1 + 1; omega)
              rw [List.append_nil] at this
              exact this
            · exact rOk_no (by omega) hr.2.1
          · exact rOk_no (by omega) hr.2.1
        · exact rOk_no (Nat.le_refl _) hp
      split
      · next h => exact pAnt_ok hE hp (by rcases h with h | h <;> rw [h] <;> decide) (by omega)
      have hr := ih 0 d p hp
      split
      · next h3 =>
        have h4 := hr.2.2 h3
        split
        · next h5 =>
          have hk := isA_c (Or.inr (Or.inr (Or.inr (Or.inr h5))))
          have h6 := hE _ hr.2.1 hk.1
          have hr2 := ih 0 d ((pz kd f 0 d p).2.1 + 1) h6
          have hb2 := hr2.1
          refine ⟨by show p ≤ (pz kd f 0 d ((pz kd f 0 d p).2.1 + 1)).2.1; omega, hr2.2.1, fun g => ?_⟩
          have h8 := hr2.2.2 g
          refine ⟨by show p < (pz kd f 0 d ((pz kd f 0 d p).2.1 + 1)).2.1; omega, ?_, ?_⟩
          · show ((pz kd f 0 d p).2.2 ++ ((pz kd f 0 d ((pz kd f 0 d p).2.1 + 1)).2.2 ++ [(kd (pz kd f 0 d p).2.1, (pz kd f 0 d p).2.1)])).length ≤ (pz kd f 0 d ((pz kd f 0 d p).2.1 + 1)).2.1 - p
            rw [List.length_append, List.length_append]
            show (pz kd f 0 d p).2.2.length + ((pz kd f 0 d ((pz kd f 0 d p).2.1 + 1)).2.2.length + 1) ≤ _
            omega
          · exact aInc_app h4.2.2 (aInc_app (aInc_lo h8.2.2 (by omega)) (aInc_1 hk.2 (Nat.le_refl _)))
        · exact rOk_no hr.1 hr.2.1
      · exact rOk_no hr.1 hr.2.1
      all_goals (intro h; omega)
end Pos
