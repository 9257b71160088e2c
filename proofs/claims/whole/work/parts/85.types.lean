/-! what is read is well typed, and fits the stack -/
section Types
variable {kd : Nat → Nat} {n : Nat} {f : sO → aO}
theorem tyL_1 {o : aO} {st : List Bool} : tyL n [o] st = ty1 n o st := by
  show (ty1 n o st).bind (tyL n []) = _
  cases ty1 n o st with
  | none => rfl
  | some s => rfl
theorem tyL_two {L1 L2 : List aO} {st s1 s2 : List Bool} (h1 : tyL n L1 st = some s1) (h2 : tyL n L2 s1 = some s2) : tyL n (L1 ++ L2) st = some s2 := by
  rw [tyL_app, h1]
  exact h2
theorem ty_loop {b : Bool} {H : Nat} {R : Nat → rS} {q : Nat → Bool} (hR : ∀ p st, (R p).1 = true → st.length + H ≤ 64 → tyL n ((R p).2.2.map f) st = some (b :: st)) (hop : ∀ k p (st : List Bool), q k = true → ty1 n (f (k, p)) (b :: b :: st) = some (b :: st)) {st : List Bool} (hst : st.length + (H + 1) ≤ 64) : ∀ (m : Nat) (r : rS), (r.1 = true → tyL n (r.2.2.map f) st = some (b :: st)) → (pLoop kd R q m r).1 = true → tyL n ((pLoop kd R q m r).2.2.map f) st = some (b :: st) := by
  intro m
  induction m with
  | zero => intro r h h1; exact h h1
  | succ m ih =>
    intro r h h1
    rw [pLoop] at h1 ⊢
    split at h1
    · next g =>
      rw [if_pos g]
      rw [Bool.and_eq_true] at g
      refine ih _ (fun h2 => ?_) h1
      show tyL n ((r.2.2 ++ ((R (r.2.1 + 1)).2.2 ++ [(kd r.2.1, r.2.1)])).map f) st = some (b :: st)
      rw [List.map_append, List.map_append]
      refine tyL_two (h g.1) (tyL_two (hR _ (b :: st) h2 (by show st.length + 1 + H ≤ 64; omega)) ?_)
      show tyL n [f (kd r.2.1, r.2.1)] _ = _
      rw [tyL_1]
      exact hop _ _ st g.2
    · next g => rw [if_neg g]; exact h h1
theorem ty_op1 {o : aO} {st : List Bool} {b c : Bool} (h : (opc o.1 = 5 ∧ b = false) ∨ (opc o.1 = 6 ∧ b = true)) : ty1 n o (b :: st) = some (b :: st) := by
  unfold ty1
  rcases h with ⟨e, rfl⟩ | ⟨e, rfl⟩
  · rw [if_neg (by omega), if_neg (by omega), if_neg (by omega), if_pos e]
  · rw [if_neg (by omega), if_neg (by omega), if_neg (by omega), if_neg (by omega), if_pos e]
theorem ty_op2 {o : aO} {st : List Bool} {b c : Bool} (h : (opc o.1 = 7 ∧ b = false ∧ c = false) ∨ (opc o.1 = 8 ∧ b = false ∧ c = true) ∨ (opc o.1 = 9 ∧ b = true ∧ c = true)) : ty1 n o (b :: b :: st) = some (c :: st) := by
  unfold ty1
  rcases h with ⟨e, rfl, rfl⟩ | ⟨e, rfl, rfl⟩ | ⟨e, rfl, rfl⟩
  · rw [if_neg (by omega), if_neg (by omega), if_neg (by omega), if_neg (by omega), if_neg (by omega), if_pos e]
  · rw [if_neg (by omega), if_neg (by omega), if_neg (by omega), if_neg (by omega), if_neg (by omega), if_neg (by omega), if_pos e]
  · rw [if_neg (by omega), if_neg (by omega), if_neg (by omega), if_neg (by omega), if_neg (by omega), if_neg (by omega), if_neg (by omega), if_pos e]
theorem ty_leaf {o : aO} {st : List Bool} (h : opc o.1 = 1 ∨ opc o.1 = 2) (hs : st.length < 64) : ty1 n o st = some (false :: st) := by
  unfold ty1
  rw [if_pos h, if_pos hs]
theorem ty_ant {o : aO} {st : List Bool} {i : Nat} (hi : i < n) (hn : n < 1000) (ho : o.2 = zn i) (hs : st.length < 64) : (opc o.1 = 3 → ty1 n o st = some (false :: st)) ∧ (opc o.1 = 4 → ty1 n o st = some (true :: st)) := by
  have e : st.length < 64 ∧ ¬ o.2 < 0 ∧ o.2.toNatClampNeg < n := by
    rw [ho]
    exact ⟨hs, zn_nn (by omega), by rw [zn_nat (by omega)]; exact hi⟩
  unfold ty1
  refine ⟨fun h => ?_, fun h => ?_⟩
  · rw [if_neg (by omega), if_pos h, if_pos e]
  · rw [if_neg (by omega), if_neg (by omega), if_pos h, if_pos e]
/-- how high the stack grows -/
def hT_ (t d : Nat) : Nat := (if t = 0 then 3 else if t = 1 then 2 else if t = 2 then 1 else if t = 3 then 6 else if t = 4 then 5 else 4) + 3 * (8 - d)
theorem ty_pz (hf1 : ∀ o, (f o).1 = o.1) (hn : n < 1000) (hfa : ∀ o, isA o.1 = true → ∃ i, i < n ∧ (f o).2 = zn i) : ∀ (F t d p : Nat) (st : List Bool), t < 6 → d ≤ 8 → (pz kd F t d p).1 = true → st.length + hT_ t d ≤ 64 → tyL n ((pz kd F t d p).2.2.map f) st = some (decide (3 ≤ t) :: st) := by
  intro F
  induction F with
  | zero => intro t d p st _ _ h; exact absurd (show false = true from h) (by decide)
  | succ F ih =>
    intro t d p st ht hd h hs
    have ant : ∀ (b : Bool), ((b = false ∧ opc (kd p) = 3) ∨ (b = true ∧ opc (kd p) = 4)) → st.length < 64 → (pAnt kd p).1 = true → tyL n ((pAnt kd p).2.2.map f) st = some (b :: st) := fun b hb hs h => by
      unfold pAnt at h ⊢
      by_cases k : kd (p + 1) = 2
      · rw [if_pos k]
        show tyL n [f (kd p, p + 1)] st = _
        have hA : isA (kd p) = true := by
          unfold isA
          rw [Bool.or_eq_true, decide_eq_true_iff, decide_eq_true_iff]
          rcases hb with ⟨_, e⟩ | ⟨_, e⟩
          · exact Or.inl e
          · exact Or.inr e
        obtain ⟨i, hi, e⟩ := hfa (kd p, p + 1) hA
        rw [tyL_1]
        have := ty_ant (n := n) (o := f (kd p, p + 1)) hi hn e hs
        rw [hf1] at this
        rcases hb with ⟨rfl, e2⟩ | ⟨rfl, e2⟩
        · exact this.1 e2
        · exact this.2 e2
      · rw [if_neg k] at h
        exact absurd (show false = true from h) (by decide)
    have grp : ∀ (q : Nat) (L : List sO), (∀ o ∈ L, o.1 = 225) → L.length ≤ 1 → st.length + (3 * (8 - d) + 0) ≤ 64 → (pGrp kd (fun q => pz kd F 0 (d + 1) q) d q L).1 = true → tyL n ((pGrp kd (fun q => pz kd F 0 (d + 1) q) d q L).2.2.map f) st = some (false :: st) := fun q L hL hL1 hs h => by
      unfold pGrp at h ⊢
      by_cases g1 : 8 ≤ d
      · rw [if_pos g1] at h; exact absurd (show false = true from h) (by decide)
      rw [if_neg g1] at h ⊢
      by_cases g2 : kd q = 40
      · rw [if_pos g2] at h ⊢
        cases e : (pz kd F 0 (d + 1) (q + 1)).1
        · rw [if_neg (by rw [e]; decide)] at h; exact absurd (show false = true from h) (by decide)
        · rw [if_pos e] at h
          rw [if_pos (show true = true from rfl)]
          by_cases g3 : kd (pz kd F 0 (d + 1) (q + 1)).2.1 = 41
          · rw [if_pos g3]
            show tyL n (((pz kd F 0 (d + 1) (q + 1)).2.2 ++ L).map f) st = _
            rw [List.map_append]
            refine tyL_two (ih 0 (d + 1) (q + 1) st (by decide) (by omega) e (by show st.length + (3 + 3 * (8 - (d + 1))) ≤ 64; omega)) ?_
            match L, hL, hL1 with
            | [], _, _ => rfl
            | [o], hL, _ =>
              show tyL n [f o] _ = _
              rw [tyL_1]
              refine ty_op1 (c := false) (Or.inl ⟨?_, rfl⟩)
              rw [hf1, hL o (List.mem_cons_self)]
              rfl
          · rw [if_neg g3] at h; exact absurd (show false = true from h) (by decide)
      · rw [if_neg g2] at h; exact absurd (show false = true from h) (by decide)
    match t with
    | 0 =>
      refine ty_loop (b := false) (H := 2 + 3 * (8 - d)) (fun q st' h1 h2 => ih 1 d q st' (by decide) hd h1 h2) (fun k q st' hk => ty_op2 (Or.inl ⟨?_, rfl, rfl⟩)) (by have : st.length + (3 + 3 * (8 - d)) ≤ 64 := hs; omega) 401 _ (fun h1 => ih 1 d p st (by decide) hd h1 (by have : st.length + (3 + 3 * (8 - d)) ≤ 64 := hs; show st.length + (2 + 3 * (8 - d)) ≤ 64; omega)) h
      rw [hf1]
      unfold qAdd at hk
      rw [Bool.or_eq_true, beq_iff_eq, beq_iff_eq] at hk
      rcases hk with rfl | rfl <;> rfl
    | 1 =>
      refine ty_loop (b := false) (H := 1 + 3 * (8 - d)) (fun q st' h1 h2 => ih 2 d q st' (by decide) hd h1 h2) (fun k q st' hk => ty_op2 (Or.inl ⟨?_, rfl, rfl⟩)) (by have : st.length + (2 + 3 * (8 - d)) ≤ 64 := hs; omega) 401 _ (fun h1 => ih 2 d p st (by decide) hd h1 (by have : st.length + (2 + 3 * (8 - d)) ≤ 64 := hs; show st.length + (1 + 3 * (8 - d)) ≤ 64; omega)) h
      rw [hf1]
      unfold qMul at hk
      rw [Bool.or_eq_true, beq_iff_eq, beq_iff_eq] at hk
      rcases hk with rfl | rfl <;> rfl
    | 3 =>
      refine ty_loop (b := true) (H := 5 + 3 * (8 - d)) (fun q st' h1 h2 => ih 4 d q st' (by decide) hd h1 h2) (fun k q st' hk => ty_op2 (Or.inr (Or.inr ⟨?_, rfl, rfl⟩))) (by have : st.length + (6 + 3 * (8 - d)) ≤ 64 := hs; omega) 401 _ (fun h1 => ih 4 d p st (by decide) hd h1 (by have : st.length + (6 + 3 * (8 - d)) ≤ 64 := hs; show st.length + (5 + 3 * (8 - d)) ≤ 64; omega)) h
      rw [hf1]
      unfold qOr at hk
      rw [beq_iff_eq] at hk
      rw [hk]
      rfl
    | 4 =>
      refine ty_loop (b := true) (H := 4 + 3 * (8 - d)) (fun q st' h1 h2 => ih 5 d q st' (by decide) hd h1 h2) (fun k q st' hk => ty_op2 (Or.inr (Or.inr ⟨?_, rfl, rfl⟩))) (by have : st.length + (5 + 3 * (8 - d)) ≤ 64 := hs; omega) 401 _ (fun h1 => ih 5 d p st (by decide) hd h1 (by have : st.length + (5 + 3 * (8 - d)) ≤ 64 := hs; show st.length + (4 + 3 * (8 - d)) ≤ 64; omega)) h
      rw [hf1]
      unfold qAnd at hk
      rw [beq_iff_eq] at hk
      rw [hk]
      rfl
    | 2 =>
      have hs : st.length + (1 + 3 * (8 - d)) ≤ 64 := hs
      show tyL n ((pz kd (F + 1) 2 d p).2.2.map f) st = some (false :: st)
      rw [pz] at h ⊢
      by_cases k1 : kd p = 3 ∨ kd p = 220 ∨ kd p = 221
      · rw [if_pos k1]
        show tyL n [f (kd p, p)] st = _
        rw [tyL_1]
        refine ty_leaf ?_ (by omega)
        rw [hf1]
        show opc (kd p) = 1 ∨ opc (kd p) = 2
        rcases k1 with e | e | e <;> rw [e] <;> decide
      rw [if_neg k1] at h ⊢
      by_cases k2 : kd p = 222 ∨ kd p = 223 ∨ kd p = 224
      · rw [if_pos k2] at h ⊢
        exact ant false (Or.inl ⟨rfl, by rcases k2 with e | e | e <;> rw [e] <;> rfl⟩) (by omega) h
      rw [if_neg k2] at h ⊢
      by_cases k3 : kd p = 225
      · rw [if_pos k3] at h ⊢
        exact grp (p + 1) [(225, p)] (fun o ho => by rw [List.mem_singleton.mp ho]) (Nat.le_refl 1) (by omega) h
      rw [if_neg k3] at h ⊢
      by_cases k4 : kd p = 45
      · rw [if_pos k4] at h ⊢
        unfold pNeg at h ⊢
        by_cases g : d < 8
        · rw [if_pos g] at h ⊢
          show tyL n (((pz kd F 2 (d + 1) (p + 1)).2.2 ++ [(4, p)]).map f) st = _
          rw [List.map_append]
          refine tyL_two (ih 2 (d + 1) (p + 1) st (by decide) (by omega) h (by show st.length + (1 + 3 * (8 - (d + 1))) ≤ 64; omega)) ?_
          show tyL n [f (4, p)] _ = _
          rw [tyL_1]
          exact ty_op1 (c := false) (Or.inl ⟨by rw [hf1]; rfl, rfl⟩)
        · rw [if_neg g] at h; exact absurd (show false = true from h) (by decide)
      rw [if_neg k4] at h ⊢
      by_cases k5 : kd p = 40
      · rw [if_pos k5] at h ⊢
        exact grp p [] (fun o ho => by cases ho) (Nat.zero_le 1) (by omega) h
      rw [if_neg k5] at h ⊢
      by_cases k6 : kd p = 231 ∨ kd p = 232
      · rw [if_pos k6] at h ⊢
        unfold pTwo at h ⊢
        by_cases g1 : 8 ≤ d
        · rw [if_pos g1] at h; exact absurd (show false = true from h) (by decide)
        rw [if_neg g1] at h ⊢
        by_cases g2 : kd (p + 1) = 40
        · rw [if_pos g2] at h ⊢
          by_cases e : (pz kd F 0 (d + 1) (p + 1 + 1)).1 = true
          · rw [if_pos e] at h ⊢
            by_cases g3 : kd (pz kd F 0 (d + 1) (p + 1 + 1)).2.1 = 44
            · rw [if_pos g3] at h ⊢
              by_cases e2 : (pz kd F 0 (d + 1) ((pz kd F 0 (d + 1) (p + 1 + 1)).2.1 + 1)).1 = true
              · rw [if_pos e2] at h ⊢
                by_cases g4 : kd (pz kd F 0 (d + 1) ((pz kd F 0 (d + 1) (p + 1 + 1)).2.1 + 1)).2.1 = 41
                · rw [if_pos g4]
                  show tyL n (((pz kd F 0 (d + 1) (p + 1 + 1)).2.2 ++ ((pz kd F 0 (d + 1) ((pz kd F 0 (d + 1) (p + 1 + 1)).2.1 + 1)).2.2 ++ [(kd p, p)])).map f) st = _
                  rw [List.map_append, List.map_append]
                  refine tyL_two (ih 0 (d + 1) _ st (by decide) (by omega) e (by show st.length + (3 + 3 * (8 - (d + 1))) ≤ 64; omega)) (tyL_two (ih 0 (d + 1) _ (false :: st) (by decide) (by omega) e2 (by show st.length + 1 + (3 + 3 * (8 - (d + 1))) ≤ 64; omega)) ?_)
                  show tyL n [f (kd p, p)] _ = _
                  rw [tyL_1]
                  refine ty_op2 (Or.inl ⟨?_, rfl, rfl⟩)
                  rw [hf1]
                  show opc (kd p) = 7
                  rcases k6 with e | e <;> rw [e] <;> rfl
                · rw [if_neg g4] at h; exact absurd (show false = true from h) (by decide)
              · rw [if_neg e2] at h; exact absurd (show false = true from h) (by decide)
            · rw [if_neg g3] at h; exact absurd (show false = true from h) (by decide)
          · rw [if_neg e] at h; exact absurd (show false = true from h) (by decide)
        · rw [if_neg g2] at h; exact absurd (show false = true from h) (by decide)
      · rw [if_neg k6] at h; exact absurd (show false = true from h) (by decide)
    | 5 =>
      have hs : st.length + (4 + 3 * (8 - d)) ≤ 64 := hs
      show tyL n ((pz kd (F + 1) 5 d p).2.2.map f) st = some (true :: st)
      have e5 : pz kd (F + 1) 5 d p = (if kd p = 228 then pNeg (fun q => pz kd F 5 (d + 1) q) d p 228
    else if kd p = 91 then (if d < 8 then (if (pz kd F 3 (d + 1) (p + 1)).1 then (if kd (pz kd F 3 (d + 1) (p + 1)).2.1 = 93 then (true, (pz kd F 3 (d + 1) (p + 1)).2.1 + 1, (pz kd F 3 (d + 1) (p + 1)).2.2) else (false, (pz kd F 3 (d + 1) (p + 1)).2.1, [])) else (false, (pz kd F 3 (d + 1) (p + 1)).2.1, [])) else (false, p, []))
    else if kd p = 226 ∨ kd p = 227 then pAnt kd p
    else if (pz kd F 0 d p).1 then (if qCmp (kd (pz kd F 0 d p).2.1) then ((pz kd F 0 d ((pz kd F 0 d p).2.1 + 1)).1, (pz kd F 0 d ((pz kd F 0 d p).2.1 + 1)).2.1, (pz kd F 0 d p).2.2 ++ ((pz kd F 0 d ((pz kd F 0 d p).2.1 + 1)).2.2 ++ [(kd (pz kd F 0 d p).2.1, (pz kd F 0 d p).2.1)])) else (false, (pz kd F 0 d p).2.1, []))
    else (false, (pz kd F 0 d p).2.1, [])) := by
        rw [pz]
        all_goals exact fun q => absurd q (by decide)
      rw [e5] at h ⊢
      by_cases k1 : kd p = 228
      · rw [if_pos k1] at h ⊢
        unfold pNeg at h ⊢
        by_cases g : d < 8
        · rw [if_pos g] at h ⊢
          show tyL n (((pz kd F 5 (d + 1) (p + 1)).2.2 ++ [(228, p)]).map f) st = _
          rw [List.map_append]
          refine tyL_two (ih 5 (d + 1) (p + 1) st (by decide) (by omega) h (by show st.length + (4 + 3 * (8 - (d + 1))) ≤ 64; omega)) ?_
          show tyL n [f (228, p)] _ = _
          rw [tyL_1]
          exact ty_op1 (c := false) (Or.inr ⟨by rw [hf1]; rfl, rfl⟩)
        · rw [if_neg g] at h; exact absurd (show false = true from h) (by decide)
      rw [if_neg k1] at h ⊢
      by_cases k2 : kd p = 91
      · rw [if_pos k2] at h ⊢
        by_cases g : d < 8
        · rw [if_pos g] at h ⊢
          by_cases e : (pz kd F 3 (d + 1) (p + 1)).1 = true
          · rw [if_pos e] at h ⊢
            by_cases g3 : kd (pz kd F 3 (d + 1) (p + 1)).2.1 = 93
            · rw [if_pos g3]
              exact ih 3 (d + 1) (p + 1) st (by decide) (by omega) e (by show st.length + (6 + 3 * (8 - (d + 1))) ≤ 64; omega)
            · rw [if_neg g3] at h; exact absurd (show false = true from h) (by decide)
          · rw [if_neg e] at h; exact absurd (show false = true from h) (by decide)
        · rw [if_neg g] at h; exact absurd (show false = true from h) (by decide)
      rw [if_neg k2] at h ⊢
      by_cases k3 : kd p = 226 ∨ kd p = 227
      · rw [if_pos k3] at h ⊢
        exact ant true (Or.inr ⟨rfl, by rcases k3 with e | e <;> rw [e] <;> rfl⟩) (by omega) h
      rw [if_neg k3] at h ⊢
      by_cases e : (pz kd F 0 d p).1 = true
      · rw [if_pos e] at h ⊢
        by_cases g : qCmp (kd (pz kd F 0 d p).2.1) = true
        · rw [if_pos g] at h ⊢
          show tyL n (((pz kd F 0 d p).2.2 ++ ((pz kd F 0 d ((pz kd F 0 d p).2.1 + 1)).2.2 ++ [(kd (pz kd F 0 d p).2.1, (pz kd F 0 d p).2.1)])).map f) st = _
          rw [List.map_append, List.map_append]
          refine tyL_two (ih 0 d p st (by decide) hd e (by show st.length + (3 + 3 * (8 - d)) ≤ 64; omega)) (tyL_two (ih 0 d _ (false :: st) (by decide) hd h (by show st.length + 1 + (3 + 3 * (8 - d)) ≤ 64; omega)) ?_)
          show tyL n [f (kd (pz kd F 0 d p).2.1, (pz kd F 0 d p).2.1)] _ = _
          rw [tyL_1]
          refine ty_op2 (Or.inr (Or.inl ⟨?_, rfl, rfl⟩))
          rw [hf1]
          show opc (kd (pz kd F 0 d p).2.1) = 8
          rcases qCmp_t.mp g with e | e | e | e | e <;> rw [e] <;> rfl
        · rw [if_neg g] at h; exact absurd (show false = true from h) (by decide)
      · rw [if_neg e] at h; exact absurd (show false = true from h) (by decide)
    | t + 6 => omega
end Types
