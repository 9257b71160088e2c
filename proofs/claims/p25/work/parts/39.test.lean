/-! tests: rows of operations on a small stack -/
abbrev aO : Type := Nat × Int32
/-- 1, 2 push a number; 3 a number of an ant, 4 a test of one; 5 one number, 6 one test; 7 two numbers to one, 8 to a test, 9 two tests to one -/
def opc : Nat → Nat
  | 3 => 1
  | 220 => 2
  | 221 => 2
  | 222 => 3
  | 223 => 3
  | 224 => 3
  | 226 => 4
  | 227 => 4
  | 4 => 5
  | 225 => 5
  | 228 => 6
  | 42 => 7
  | 43 => 7
  | 45 => 7
  | 47 => 7
  | 231 => 7
  | 232 => 7
  | 60 => 8
  | 61 => 8
  | 62 => 8
  | 128 => 8
  | 129 => 8
  | 229 => 9
  | 230 => 9
  | _ => 0
def pv (Y : aY) (k : Nat) (v : Int32) : Int32 := if k = 3 then v else if k = 220 then zn (yd_t Y) else if k = 221 then zn (dk (yd_c Y)) else if k = 222 then zn (an_x (yd_a Y v.toNatClampNeg)) else if k = 223 then zn (an_y (yd_a Y v.toNatClampNeg)) else if k = 224 then zn (anP (yd_a Y v.toNatClampNeg)) else if k = 226 then (if meB (yd_a Y) (yd_n Y) v.toNatClampNeg then 1 else 0) else zn (1 - an_w (yd_a Y v.toNatClampNeg))
def uv (Y : aY) (k : Nat) (x : Int32) : Int32 := if k = 4 then -x else if k = 225 then (if x < 0 ∨ 64 ≤ x then 0 else zn (nz (yd_c Y) (64 * x.toNatClampNeg) 64)) else if x = 0 then 1 else 0
def bv (k : Nat) (x y : Int32) : Int32 := if k = 42 then x * y else if k = 43 then x + y else if k = 45 then x - y else if k = 47 then (if y = 0 then 0 else x / y) else if k = 60 then (if x < y then 1 else 0) else if k = 61 then (if x = y then 1 else 0) else if k = 62 then (if y < x then 1 else 0) else if k = 128 then (if x ≤ y then 1 else 0) else if k = 129 then (if y ≤ x then 1 else 0) else if k = 229 then x &&& y else if k = 230 then x ||| y else if k = 231 then (if y < x then y else x) else (if x < y then y else x)
def ev1 (Y : aY) (o : aO) (s : List Int32) : List Int32 := if opc o.1 ≤ 4 then pv Y o.1 o.2 :: s else if opc o.1 ≤ 6 then uv Y o.1 (s.headD 0) :: s.tail else bv o.1 (s.tail.headD 0) (s.headD 0) :: s.tail.tail
def evL (Y : aY) : List aO → List Int32 → List Int32
  | [], s => s
  | o :: L, s => evL Y L (ev1 Y o s)
def ty1 (n : Nat) (o : aO) (st : List Bool) : Option (List Bool) :=
  if opc o.1 = 1 ∨ opc o.1 = 2 then (if st.length < 64 then some (false :: st) else none)
  else if opc o.1 = 3 then (if st.length < 64 ∧ ¬ o.2 < 0 ∧ o.2.toNatClampNeg < n then some (false :: st) else none)
  else if opc o.1 = 4 then (if st.length < 64 ∧ ¬ o.2 < 0 ∧ o.2.toNatClampNeg < n then some (true :: st) else none)
  else if opc o.1 = 5 then (match st with | false :: r => some (false :: r) | _ => none)
  else if opc o.1 = 6 then (match st with | true :: r => some (true :: r) | _ => none)
  else if opc o.1 = 7 then (match st with | false :: false :: r => some (false :: r) | _ => none)
  else if opc o.1 = 8 then (match st with | false :: false :: r => some (true :: r) | _ => none)
  else if opc o.1 = 9 then (match st with | true :: true :: r => some (true :: r) | _ => none)
  else none
def tyL (n : Nat) : List aO → List Bool → Option (List Bool)
  | [], st => some st
  | o :: L, st => (ty1 n o st).bind (tyL n L)
theorem tyL_app {n : Nat} {L1 L2 : List aO} : ∀ {st : List Bool}, tyL n (L1 ++ L2) st = (tyL n L1 st).bind (tyL n L2) := by
  induction L1 with
  | nil => intro st; rfl
  | cons o L ih =>
    intro st
    show (ty1 n o st).bind (tyL n (L ++ L2)) = ((ty1 n o st).bind (tyL n L)).bind (tyL n L2)
    cases ty1 n o st with
    | none => rfl
    | some s => exact ih
theorem evL_app {Y : aY} {L1 L2 : List aO} : ∀ {s : List Int32}, evL Y (L1 ++ L2) s = evL Y L2 (evL Y L1 s) := by
  induction L1 with
  | nil => intro s; rfl
  | cons o L ih => intro s; exact ih
def sOk : List Bool → List Int32 → Prop
  | [], [] => True
  | b :: st, x :: s => (b = true → x = 0 ∨ x = 1) ∧ sOk st s
  | _, _ => False
theorem sOk_len : ∀ {st : List Bool} {s : List Int32}, sOk st s → s.length = st.length
  | [], [], _ => rfl
  | b :: st, x :: s, h => by show s.length + 1 = st.length + 1; rw [sOk_len h.2]
theorem opc_ge {k : Nat} (h : opc k ≠ 0) : (opc k = 1 ∧ k = 3) ∨ (opc k = 2 ∧ (k = 220 ∨ k = 221)) ∨ (opc k = 3 ∧ (k = 222 ∨ k = 223 ∨ k = 224)) ∨ (opc k = 4 ∧ (k = 226 ∨ k = 227)) ∨ (opc k = 5 ∧ (k = 4 ∨ k = 225)) ∨ (opc k = 6 ∧ k = 228) ∨ (opc k = 7 ∧ (k = 42 ∨ k = 43 ∨ k = 45 ∨ k = 47 ∨ k = 231 ∨ k = 232)) ∨ (opc k = 8 ∧ (k = 60 ∨ k = 61 ∨ k = 62 ∨ k = 128 ∨ k = 129)) ∨ (opc k = 9 ∧ (k = 229 ∨ k = 230)) := by
  unfold opc at h
  split at h
  all_goals first | exact absurd rfl h | decide
/-- what a typed operation finds -/
theorem ty1_cases {n k : Nat} {v : Int32} {st st' : List Bool} (h : ty1 n (k, v) st = some st') :
    (opc k ≤ 2 ∧ opc k ≠ 0 ∧ st.length < 64 ∧ st' = false :: st) ∨ (opc k = 3 ∧ st.length < 64 ∧ (¬ v < 0 ∧ v.toNatClampNeg < n) ∧ st' = false :: st) ∨ (opc k = 4 ∧ st.length < 64 ∧ (¬ v < 0 ∧ v.toNatClampNeg < n) ∧ st' = true :: st) ∨ (opc k = 5 ∧ ∃ r, st = false :: r ∧ st' = false :: r) ∨ (opc k = 6 ∧ ∃ r, st = true :: r ∧ st' = true :: r) ∨ (opc k = 7 ∧ ∃ r, st = false :: false :: r ∧ st' = false :: r) ∨ (opc k = 8 ∧ ∃ r, st = false :: false :: r ∧ st' = true :: r) ∨ (opc k = 9 ∧ ∃ r, st = true :: true :: r ∧ st' = true :: r) := by
  unfold ty1 at h
  dsimp only at h
  split at h
  · next q =>
    split at h
    · next q2 => exact Or.inl ⟨by omega, by omega, q2, (Option.some.inj h).symm⟩
    · cases h
  next q =>
  split at h
  · next q2 =>
    split at h
    · next q3 => exact Or.inr (Or.inl ⟨q2, q3.1, q3.2, (Option.some.inj h).symm⟩)
    · cases h
  next q =>
  split at h
  · next q2 =>
    split at h
    · next q3 => exact Or.inr (Or.inr (Or.inl ⟨q2, q3.1, q3.2, (Option.some.inj h).symm⟩))
    · cases h
  next q =>
  split at h
  · next q2 =>
    split at h
    · exact Or.inr (Or.inr (Or.inr (Or.inl ⟨q2, _, rfl, (Option.some.inj h).symm⟩)))
    · cases h
  next q =>
  split at h
  · next q2 =>
    split at h
    · exact Or.inr (Or.inr (Or.inr (Or.inr (Or.inl ⟨q2, _, rfl, (Option.some.inj h).symm⟩))))
    · cases h
  next q =>
  split at h
  · next q2 =>
    split at h
    · exact Or.inr (Or.inr (Or.inr (Or.inr (Or.inr (Or.inl ⟨q2, _, rfl, (Option.some.inj h).symm⟩)))))
    · cases h
  next q =>
  split at h
  · next q2 =>
    split at h
    · exact Or.inr (Or.inr (Or.inr (Or.inr (Or.inr (Or.inr (Or.inl ⟨q2, _, rfl, (Option.some.inj h).symm⟩))))))
    · cases h
  next q =>
  split at h
  · next q2 =>
    split at h
    · exact Or.inr (Or.inr (Or.inr (Or.inr (Or.inr (Or.inr (Or.inr ⟨q2, _, rfl, (Option.some.inj h).symm⟩))))))
    · cases h
  · cases h
theorem sOk1 {b : Bool} {r : List Bool} {s : List Int32} (h : sOk (b :: r) s) : ∃ x t, s = x :: t ∧ (b = true → x = 0 ∨ x = 1) ∧ sOk r t := by
  match s, h with
  | x :: t, h => exact ⟨x, t, rfl, h.1, h.2⟩
theorem b01 {c : Prop} [Decidable c] : (if c then (1 : Int32) else 0) = 0 ∨ (if c then (1 : Int32) else 0) = 1 := by
  by_cases h : c
  · rw [if_pos h]; exact Or.inr rfl
  · rw [if_neg h]; exact Or.inl rfl
theorem ev1_ok {n k : Nat} {v : Int32} {st st' : List Bool} {s : List Int32} {Y : aY} (hw : ∀ i, i < n → an_w (yd_a Y i) < 2) (h : ty1 n (k, v) st = some st') (hs : sOk st s) : sOk st' (ev1 Y (k, v) s) := by
  unfold ev1
  dsimp only
  rcases ty1_cases h with ⟨h1, h2, h3, rfl⟩ | ⟨h1, h2, h3, rfl⟩ | ⟨h1, h2, h3, rfl⟩ | ⟨h1, r, rfl, rfl⟩ | ⟨h1, r, rfl, rfl⟩ | ⟨h1, r, rfl, rfl⟩ | ⟨h1, r, rfl, rfl⟩ | ⟨h1, r, rfl, rfl⟩
  · rw [if_pos (by omega)]
    exact ⟨(fun e => by cases e), hs⟩
  · rw [if_pos (by omega)]
    exact ⟨(fun e => by cases e), hs⟩
  · rw [if_pos (by omega)]
    refine ⟨fun _ => ?_, hs⟩
    have hk : k = 226 ∨ k = 227 := by have := opc_ge (k := k) (by omega); omega
    have hw2 := hw _ h3.2
    rcases hk with rfl | rfl
    · show (if _ then _ else _) = _ ∨ (if _ then _ else _) = _
      exact b01
    · show zn (1 - an_w (yd_a Y v.toNatClampNeg)) = 0 ∨ zn (1 - an_w (yd_a Y v.toNatClampNeg)) = 1
      rcases (show an_w (yd_a Y v.toNatClampNeg) = 0 ∨ an_w (yd_a Y v.toNatClampNeg) = 1 by omega) with e | e <;> rw [e]
      · exact Or.inr rfl
      · exact Or.inl rfl
  · obtain ⟨x, t, rfl, q1, q2⟩ := sOk1 hs
    rw [if_neg (by omega), if_pos (by omega)]
    exact ⟨(fun e => by cases e), q2⟩
  · obtain ⟨x, t, rfl, q1, q2⟩ := sOk1 hs
    rw [if_neg (by omega), if_pos (by omega)]
    refine ⟨fun _ => ?_, q2⟩
    have hk : k = 228 := by have := opc_ge (k := k) (by omega); omega
    subst hk
    exact b01
  · obtain ⟨x, t, rfl, q1, q2⟩ := sOk1 hs
    obtain ⟨z, t, rfl, q3, q4⟩ := sOk1 q2
    rw [if_neg (by omega), if_neg (by omega)]
    exact ⟨(fun e => by cases e), q4⟩
  · obtain ⟨x, t, rfl, q1, q2⟩ := sOk1 hs
    obtain ⟨z, t, rfl, q3, q4⟩ := sOk1 q2
    rw [if_neg (by omega), if_neg (by omega)]
    refine ⟨fun _ => ?_, q4⟩
    have hk : k = 60 ∨ k = 61 ∨ k = 62 ∨ k = 128 ∨ k = 129 := by have := opc_ge (k := k) (by omega); omega
    rcases hk with rfl | rfl | rfl | rfl | rfl <;> exact b01
  · obtain ⟨x, t, rfl, q1, q2⟩ := sOk1 hs
    obtain ⟨z, t, rfl, q3, q4⟩ := sOk1 q2
    rw [if_neg (by omega), if_neg (by omega)]
    refine ⟨fun _ => ?_, q4⟩
    have hk : k = 229 ∨ k = 230 := by have := opc_ge (k := k) (by omega); omega
    show bv k z x = 0 ∨ bv k z x = 1
    rcases q1 rfl with rfl | rfl <;> rcases q3 rfl with rfl | rfl <;> rcases hk with rfl | rfl <;> first | exact Or.inl rfl | exact Or.inr rfl
theorem evL_ok {n : Nat} {Y : aY} (hw : ∀ i, i < n → an_w (yd_a Y i) < 2) {L : List aO} : ∀ {st st' : List Bool} {s : List Int32}, tyL n L st = some st' → sOk st s → sOk st' (evL Y L s) := by
  induction L with
  | nil => intro st st' s h hs; cases h; exact hs
  | cons o L ih =>
    intro st st' s h hs
    obtain ⟨s1, h1, h2⟩ := Option.bind_eq_some_iff.mp h
    exact ih h2 (ev1_ok hw h1 hs)
