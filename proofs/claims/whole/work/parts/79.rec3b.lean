/-! the reference's parser: sums, products, values -/
section Rec3b
variable {G : gS} {ad : Nat → Nat} {T : Nat → Nat} {tl : Nat}
theorem MR_one {M : mS} {p d : Nat} {C : List Int32} {O : List Nat} {ro : Nat → Nat} {k t : Nat} (hk : (opc k = 2 ∨ 5 ≤ opc k) ∧ isA k = false) (h : MR ad M T tl p d (C ++ [zn (mc k)]) O ro) : MR ad M T tl p d (C ++ enT T tl [(k, t)]) (O ++ opT T tl C.length [(k, t)]) (roL [(k, t)] ro) := by
  rw [enT_op hk.1, opT_op hk.2, roL_op hk.2, List.append_nil]
  exact h
theorem pGrp_L {kd : Nat → Nat} {R : Nat → rS} {d p : Nat} {L : List sO} : pGrp kd R d p L = if (pGrp kd R d p []).1 then (true, (pGrp kd R d p []).2.1, (pGrp kd R d p []).2.2 ++ L) else (false, (pGrp kd R d p []).2.1, []) := by
  unfold pGrp
  by_cases h1 : 8 ≤ d
  · rw [if_pos h1, if_pos h1]
    rfl
  rw [if_neg h1, if_neg h1]
  by_cases h2 : kd p = 40
  · rw [if_pos h2, if_pos h2]
    cases e : (R (p + 1)).1
    · rfl
    · rw [if_pos (show true = true from rfl), if_pos (show true = true from rfl)]
      by_cases h3 : kd (R (p + 1)).2.1 = 41
      · rw [if_pos h3, if_pos h3]
        show _ = (true, (R (p + 1)).2.1 + 1, ((R (p + 1)).2.2 ++ []) ++ L)
        rw [List.append_nil]
      · rw [if_neg h3, if_neg h3]
        rfl
  · rw [if_neg h2, if_neg h2]
    rfl
theorem w_rec3 (hA : Inj ad) (hS : Sh G ad) (hq : gP G (ad 70) 12 = some (ad 126)) (hL : LSh G ad 126) (htl : tl ≤ 2000) (hT : ∀ k, k < tl → T k < 256) : ∀ (n : Nat),
    (∀ d F, d ≤ 8 → 4 * (8 - d) + 4 ≤ n → 3 * (8 - d) + 3 ≤ F → wG G ad T tl (fun M => rec3 G (ad 70) n 0 M 0 0) d (pz (kdT T tl) F 0 d)) ∧
    (∀ d F, d ≤ 8 → 4 * (8 - d) + 3 ≤ n → 3 * (8 - d) + 2 ≤ F → wG G ad T tl (fun M => rec3 G (ad 70) n 1 M 0 0) d (pz (kdT T tl) F 1 d)) ∧
    (∀ d F, d ≤ 8 → 4 * (8 - d) + 2 ≤ n → 3 * (8 - d) + 1 ≤ F → wG G ad T tl (fun M => rec3 G (ad 70) n 2 M 0 0) d (pz (kdT T tl) F 2 d)) ∧
    (∀ d F, d ≤ 8 → 4 * (8 - d) + 1 ≤ n → 3 * (8 - d) ≤ F → ∀ x, wG G ad T tl (fun M => rec3 G (ad 70) n 3 M x 0) d (fun p => pGrp (kdT T tl) (fun q => pz (kdT T tl) F 0 (d + 1) q) d p [])) ∧
    (∀ d F, d ≤ 8 → 4 * (8 - d) + 1 ≤ n → 3 * (8 - d) ≤ F → ∀ k t, ((opc k = 2 ∨ 5 ≤ opc k) ∧ isA k = false) → wG G ad T tl (fun M => rec3 G (ad 70) n 3 M (zn (mc k)) 1) d (fun p => pTwo (kdT T tl) (fun q => pz (kdT T tl) F 0 (d + 1) q) d p [(k, t)])) := by
  intro n
  have hn4 := nT_le (T := T) (tl := tl)
  induction n with
  | zero =>
    refine ⟨fun d F _ q => ?_, fun d F _ q => ?_, fun d F _ q => ?_, fun d F _ q => ?_, fun d F _ q => ?_⟩ <;> omega
  | succ n ih =>
    obtain ⟨i0, i1, i2, i3, i4⟩ := ih
    refine ⟨fun d F hd hn hF => ?_, fun d F hd hn hF => ?_, fun d F hd hn hF => ?_, fun d F hd hn hF x => ?_, fun d F hd hn hF k t hk => ?_⟩
    · intro M C O ro p h hC hO
      obtain ⟨F, rfl⟩ : ∃ g, F = g + 1 := ⟨F - 1, by omega⟩
      have hX := i1 d F hd (by omega) (by omega)
      show PostM ad T tl d C O ro M (rec3 G (ad 70) (n + 1) 0 M 0 0) (pz (kdT T tl) (F + 1) 0 d p)
      rw [rec3, if_pos rfl, pz]
      unfold q_X12_isSum
      refine c_clm (hX M C O ro p h hC hO) ?_
      rintro M1 v ⟨f1, t1, n1⟩
      have hp := h.2.1.2.1
      cases e : (pz (kdT T tl) F 1 d p).1
      · obtain ⟨rfl, d', C', O', ro', h1⟩ := n1 e
        rw [show pLoop (kdT T tl) (fun q => pz (kdT T tl) F 1 d q) qAdd 401 (pz (kdT T tl) F 1 d p) = pz (kdT T tl) F 1 d p from by rw [pLoop, if_neg (by rw [e, Bool.false_and]; decide)]]
        exact c_t rfl (c_ck (Or.inl rfl) (c_some ⟨f1, fun g => by rw [e] at g; exact absurd g (by decide), fun _ => ⟨rfl, _, _, _, _, h1⟩⟩))
      · obtain ⟨rfl, h1⟩ := t1 e
        refine c_f (by decide) (w_loop hA hS hq hL (X := fun M => rec3 G (ad 70) n 1 M 0 0) (q := qAdd) (loop := q_X12_isSum_9 G (rec3 G (ad 70) n) (ad 70)) (fun k hk => ?_) hX (fun p hp => pz_rok hp) (fun m M p C O ro Q h H1 H2 => ?_) 401 0 fu M M1 C O ro p _ (by omega) (by unfold fu; omega) (Nat.zero_le _) hC hO e (pz_rok hp) f1 h1)
        · unfold qAdd at hk
          rw [Bool.or_eq_true, beq_iff_eq, beq_iff_eq] at hk
          rcases hk with rfl | rfl <;> decide
        · rw [q_X12_isSum_9]
          refine w_sgC hS h (t := 43) (vK_s rfl) (by decide) (fun k => ?_) (fun k => ?_)
          · refine c_f (by decide) ?_
            unfold q_X12_isSum_27
            refine w_sgC hS h (t := 43) (vK_s rfl) (by decide) (fun k => ?_) (fun k2 => absurd k k2)
            refine c_f (by decide) ?_
            unfold q_X12_isSum_43
            obtain ⟨h1, f1⟩ := MR_nx hA h (kdT_lt (by omega))
            have := H1 (by rw [k]; rfl) _ h1 f1
            rw [k] at this
            exact c_wI this
          · refine c_t rfl (w_sgC hS h (t := 45) (vK_s rfl) (by decide) (fun k2 => ?_) (fun k2 => ?_))
            · refine c_f (by decide) ?_
              unfold q_X12_isSum_27
              refine w_sgC hS h (t := 43) (vK_s rfl) (by decide) (fun k3 => absurd k3 k) (fun k3 => ?_)
              refine c_t rfl ?_
              unfold q_X12_isSum_43
              obtain ⟨h1, f1⟩ := MR_nx hA h (kdT_lt (by omega))
              have := H1 (by rw [k2]; rfl) _ h1 f1
              rw [k2] at this
              exact c_wI this
            · refine c_t rfl (H2 (fun q => ?_) M h NFr_rf)
              unfold qAdd at q
              rw [Bool.or_eq_true, beq_iff_eq, beq_iff_eq] at q
              rcases q with q | q
              · exact k q
              · exact k2 q
    · intro M C O ro p h hC hO
      obtain ⟨F, rfl⟩ : ∃ g, F = g + 1 := ⟨F - 1, by omega⟩
      have hX := i2 d F hd (by omega) (by omega)
      show PostM ad T tl d C O ro M (rec3 G (ad 70) (n + 1) 1 M 0 0) (pz (kdT T tl) (F + 1) 1 d p)
      rw [rec3, if_neg (by decide), if_pos rfl, pz]
      unfold q_X12_isProduct
      refine c_clm (hX M C O ro p h hC hO) ?_
      rintro M1 v ⟨f1, t1, n1⟩
      have hp := h.2.1.2.1
      cases e : (pz (kdT T tl) F 2 d p).1
      · obtain ⟨rfl, d', C', O', ro', h1⟩ := n1 e
        rw [show pLoop (kdT T tl) (fun q => pz (kdT T tl) F 2 d q) qMul 401 (pz (kdT T tl) F 2 d p) = pz (kdT T tl) F 2 d p from by rw [pLoop, if_neg (by rw [e, Bool.false_and]; decide)]]
        exact c_t rfl (c_ck (Or.inl rfl) (c_some ⟨f1, fun g => by rw [e] at g; exact absurd g (by decide), fun _ => ⟨rfl, _, _, _, _, h1⟩⟩))
      · obtain ⟨rfl, h1⟩ := t1 e
        refine c_f (by decide) (w_loop hA hS hq hL (X := fun M => rec3 G (ad 70) n 2 M 0 0) (q := qMul) (loop := q_X12_isProduct_9 G (rec3 G (ad 70) n) (ad 70)) (fun k hk => ?_) hX (fun p hp => pz_rok hp) (fun m M p C O ro Q h H1 H2 => ?_) 401 0 fu M M1 C O ro p _ (by omega) (by unfold fu; omega) (Nat.zero_le _) hC hO e (pz_rok hp) f1 h1)
        · unfold qMul at hk
          rw [Bool.or_eq_true, beq_iff_eq, beq_iff_eq] at hk
          rcases hk with rfl | rfl <;> decide
        · rw [q_X12_isProduct_9]
          refine w_sgC hS h (t := 42) (vK_s rfl) (by decide) (fun k => ?_) (fun k => ?_)
          · refine c_f (by decide) ?_
            unfold q_X12_isProduct_27
            refine w_sgC hS h (t := 42) (vK_s rfl) (by decide) (fun k => ?_) (fun k2 => absurd k k2)
            refine c_f (by decide) ?_
            unfold q_X12_isProduct_43
            obtain ⟨h1, f1⟩ := MR_nx hA h (kdT_lt (by omega))
            have := H1 (by rw [k]; rfl) _ h1 f1
            rw [k] at this
            exact c_wI this
          · refine c_t rfl (w_sgC hS h (t := 47) (vK_s rfl) (by decide) (fun k2 => ?_) (fun k2 => ?_))
            · refine c_f (by decide) ?_
              unfold q_X12_isProduct_27
              refine w_sgC hS h (t := 42) (vK_s rfl) (by decide) (fun k3 => absurd k3 k) (fun k3 => ?_)
              refine c_t rfl ?_
              unfold q_X12_isProduct_43
              obtain ⟨h1, f1⟩ := MR_nx hA h (kdT_lt (by omega))
              have := H1 (by rw [k2]; rfl) _ h1 f1
              rw [k2] at this
              exact c_wI this
            · refine c_t rfl (H2 (fun q => ?_) M h NFr_rf)
              unfold qMul at q
              rw [Bool.or_eq_true, beq_iff_eq, beq_iff_eq] at q
              rcases q with q | q
              · exact k q
              · exact k2 q
    · intro M C O ro p h hC hO
      obtain ⟨F, rfl⟩ : ∃ g, F = g + 1 := ⟨F - 1, by omega⟩
      show PostM ad T tl d C O ro M (rec3 G (ad 70) (n + 1) 2 M 0 0) (pz (kdT T tl) (F + 1) 2 d p)
      rw [rec3, if_neg (by decide), if_neg (by decide), if_pos rfl, pz]
      have hp := h.2.1.2.1
      unfold q_X12_isValue
      rw [h.2.1.1]
      refine c_rf (sh_m4 hS) (c_ix (by rw [sh_mn4 hS]; exact zn_in (by omega) (by decide)) (c_bd ?_))
      rw [zn_nat (by omega), (h.1.2.1 p hp).1]
      refine w_isC hS h (t := 3) (by unfold vK; decide) (by decide) (fun k3 => ?_) (fun k3 => ?_)
      · -- a number
        have hlt := kdT_lt (T := T) (tl := tl) (q := p) (by omega)
        rw [if_pos (Or.inl k3)]
        refine c_f (by decide) (c_clm (w_put hA hq hL h (by omega)) ?_)
        rintro M1 _ ⟨h1, f1⟩
        rw [h1.2.1.1, w_num hS htl h1 k3 hT]
        refine c_cl (c_some (c_clm (w_put hA hq hL h1 (by rw [List.length_append]; show C.length + 1 < 800; omega)) ?_))
        rintro M2 _ ⟨h2, f2⟩
        obtain ⟨h3, f3⟩ := MR_nx hA h2 hlt
        refine c_wI (c_ck (Or.inr rfl) (c_some ⟨NFr_tr f1 (NFr_tr f2 f3), fun _ => ⟨rfl, ?_⟩, fun q => absurd (show true = false from q) (by decide)⟩))
        have e2 : enT T tl [(kdT T tl p, p)] = [42, zn (numT T tl p)] := by
          rw [enT_1, k3]
          rfl
        have hA3 : isA (kdT T tl p) = false := by rw [k3]; rfl
        show MR ad _ T tl (p + 1) d (C ++ enT T tl [(kdT T tl p, p)]) (O ++ opT T tl C.length [(kdT T tl p, p)]) (roL [(kdT T tl p, p)] ro)
        rw [e2, opT_op hA3, roL_op hA3, List.append_nil]
        rw [List.append_assoc] at h3
        exact h3
      refine c_t rfl ?_
      have leaf : (kdT T tl p = 220 ∨ kdT T tl p = 221) → PostM ad T tl d C O ro M (q_X12_isValue_67 G (rec3 G (ad 70) n) (ad 70) M (zn (kr (kdT T tl p)))) (true, p + 1, [(kdT T tl p, p)]) := fun hk => by
        have hlt := kdT_lt (T := T) (tl := tl) (q := p) (by omega)
        unfold q_X12_isValue_67
        refine c_clm (w_put hA hq hL h (by omega)) ?_
        rintro M1 _ ⟨h1, f1⟩
        obtain ⟨h3, f3⟩ := MR_nx hA h1 hlt
        have em : kr (kdT T tl p) = mc (kdT T tl p) := by rcases hk with e | e <;> rw [e] <;> rfl
        rw [em] at h3
        exact c_wI (c_ck (Or.inr rfl) (c_some ⟨NFr_tr f1 f3, fun _ => ⟨rfl, MR_one (t := p) (by rcases hk with e | e <;> rw [e] <;> decide) h3⟩, fun q => absurd (show true = false from q) (by decide)⟩))
      refine w_isC hS h (t := 220) (vK_w (by decide)) (by decide) (fun k4 => ?_) (fun k4 => ?_)
      · rw [if_pos (Or.inr (Or.inl k4))]
        exact c_f (by decide) (leaf (Or.inl k4))
      refine c_t rfl (w_isC hS h (t := 221) (vK_w (by decide)) (by decide) (fun k5 => ?_) (fun k5 => ?_))
      · rw [if_pos (Or.inr (Or.inr k5))]
        exact c_f (by decide) (leaf (Or.inr k5))
      rw [if_neg (show ¬ (kdT T tl p = 3 ∨ kdT T tl p = 220 ∨ kdT T tl p = 221) by omega)]
      refine c_t rfl ?_
      rw [show m_X12_isWordOf G M (ad 70) 22 24 = _ from w_word hS h (a := 22) (b := 24) (by decide) (by decide)]
      refine c_cl (c_some ?_)
      by_cases k6 : 200 + 22 ≤ kdT T tl p ∧ kdT T tl p ≤ 200 + 24
      · have k6' : kdT T tl p = 222 ∨ kdT T tl p = 223 ∨ kdT T tl p = 224 := by omega
        rw [if_pos k6, if_pos k6']
        exact c_f (by decide) (PM_ck (w_named hA hS hq hL h (by rcases k6' with e | e | e <;> rw [e] <;> decide) (by omega) hC hO))
      rw [if_neg k6, if_neg (show ¬ (kdT T tl p = 222 ∨ kdT T tl p = 223 ∨ kdT T tl p = 224) by omega)]
      refine c_t rfl (w_etC hA hS h (t := 225) (vK_w (by decide)) (by decide) (by decide) (fun k7 M1 h1 f1 => ?_) (fun k7 M1 h1 f1 => ?_))
      · rw [if_pos k7]
        have hlt := kdT_lt (T := T) (tl := tl) (q := p) (by omega)
        refine c_f (by decide) (c_clm (i3 d F hd (by omega) (by omega) _ M1 C O ro (p + 1) h1 (by omega) (by omega)) ?_)
        rintro M2 v ⟨f2, t2, n2⟩
        have hrk : rOk (nT T tl) (p + 1) (pGrp (kdT T tl) (fun q => pz (kdT T tl) F 0 (d + 1) q) d (p + 1) []) := pGrp_ok (fun _ _ h => kdT_lt h) (fun q hq => pz_rok hq) (Nat.le_refl _) hlt (Nat.zero_le _) (fun o ho => by cases ho)
        rw [pGrp_L]
        dsimp only at t2 n2
        generalize pGrp (kdT T tl) (fun q => pz (kdT T tl) F 0 (d + 1) q) d (p + 1) [] = rr at t2 n2 hrk ⊢
        cases e : rr.1
        · rw [if_neg (show ¬ false = true by decide)]
          obtain ⟨rfl, d', C', O', ro', h2⟩ := n2 e
          exact c_t rfl (PM_no h2 (NFr_tr f1 f2))
        · rw [if_pos (show true = true from rfl)]
          obtain ⟨rfl, h2⟩ := t2 e
          have hl : (C ++ enT T tl rr.2.2).length < 800 := by
            have a1 := enT_len (T := T) (tl := tl) rr.2.2
            have a2 := hrk.2.1
            have a3 := hrk.2.2 e
            rw [List.length_append]
            omega
          refine c_f (by decide) (c_clm (w_put hA hq hL h2 hl) ?_)
          rintro M3 _ ⟨h3, f3⟩
          exact c_ck (Or.inr rfl) (c_some ⟨NFr_tr f1 (NFr_tr f2 f3), fun _ => ⟨rfl, MR_op (k := 225) (t := p) (by decide) h3⟩, fun q => absurd (show true = false from q) (by decide)⟩)
      rw [if_neg k7]
      have tr : ∀ {M2 : mS} {x : Option (mS × Int32)} {r : rS}, NFr ad M M2 → PostM ad T tl d C O ro M2 x r → PostM ad T tl d C O ro M x r := fun hF hx => by
        refine c_mono hx ?_
        rintro M' v ⟨a, b, c⟩
        exact ⟨NFr_tr hF a, b, c⟩
      refine c_t rfl (w_sgC hS h1 (t := 45) (vK_s rfl) (by decide) (fun k8 => ?_) (fun k8 => ?_))
      · rw [if_pos k8]
        exact c_f (by decide) (tr f1 (w_neg hA hS hq hL (k := 4) rfl hd (X := fun M => rec3 G (ad 70) n 2 M 0 0) (fun hd8 => i2 (d + 1) F (by omega) (by omega) (by omega)) (fun p hp => pz_rok hp) (by decide) h1 (kdT_lt (by omega)) hC hO (Z := q_X12_isValue_153 G (rec3 G (ad 70) n) (ad 70)) (fun M => rfl)))
      rw [if_neg k8]
      have two : ∀ (k : Nat), (k = 231 ∨ k = 232) → kdT T tl p = k → ∀ M2, MR ad M2 T tl (p + 1) d C O ro → NFr ad M M2 → PostM ad T tl d C O ro M (q_X12_isValue_193 G (rec3 G (ad 70) n) (ad 70) M2 (zn (kr (kdT T tl p)))) (pTwo (kdT T tl) (fun q => pz (kdT T tl) F 0 (d + 1) q) d (p + 1) [(kdT T tl p, p)]) := fun k hk e M2 h2 f2 => by
        unfold q_X12_isValue_193 q_X12_isValue_198
        have em : kr (kdT T tl p) = mc (kdT T tl p) := by rw [e]; rcases hk with rfl | rfl <;> rfl
        rw [em]
        exact tr f2 (PM_ck (i4 d F hd (by omega) (by omega) (kdT T tl p) p (by rw [e]; rcases hk with rfl | rfl <;> decide) M2 C O ro (p + 1) h2 (by omega) (by omega)))
      refine c_t rfl (w_etC hA hS h1 (t := 231) (vK_w (by decide)) (by decide) (by decide) (fun k9 M2 h2 f2 => ?_) (fun k9 M2 h2 f2 => ?_))
      · rw [if_neg (show ¬ kdT T tl p = 40 by omega), if_pos (Or.inl k9)]
        exact c_f (by decide) (two 231 (Or.inl rfl) k9 M2 h2 (NFr_tr f1 f2))
      refine c_t rfl (w_etC hA hS h2 (t := 232) (vK_w (by decide)) (by decide) (by decide) (fun k10 M3 h3 f3 => ?_) (fun k10 M3 h3 f3 => ?_))
      · rw [if_neg (show ¬ kdT T tl p = 40 by omega), if_pos (Or.inr k10)]
        exact c_f (by decide) (two 232 (Or.inr rfl) k10 M3 h3 (NFr_tr f1 (NFr_tr f2 f3)))
      refine c_t rfl ?_
      unfold q_X12_isValue_198
      have lst := tr (NFr_tr f1 (NFr_tr f2 f3)) (PM_ck (i3 d F hd (by omega) (by omega) (zn (kr (kdT T tl p))) M3 C O ro p h3 hC hO))
      by_cases k11 : kdT T tl p = 40
      · rw [if_pos k11]
        exact lst
      · rw [if_neg k11, if_neg (show ¬ (kdT T tl p = 231 ∨ kdT T tl p = 232) by omega)]
        have eg : pGrp (kdT T tl) (fun q => pz (kdT T tl) F 0 (d + 1) q) d p [] = (false, p, []) := by
          unfold pGrp
          rw [if_neg k11]
          split <;> rfl
        dsimp only at lst
        rw [eg] at lst
        exact lst
    · intro M C O ro p h hC hO
      show PostM ad T tl d C O ro M (rec3 G (ad 70) (n + 1) 3 M x 0) _
      rw [rec3, if_neg (by decide), if_neg (by decide), if_neg (by decide), if_pos rfl]
      exact w_grp hA hS hd (R := rec3 G (ad 70) n) (fun hd8 => i0 (d + 1) F (by omega) (by omega) (by omega)) M C O ro p h hC hO
    · intro M C O ro p h hC hO
      show PostM ad T tl d C O ro M (rec3 G (ad 70) (n + 1) 3 M (zn (mc k)) 1) _
      rw [rec3, if_neg (by decide), if_neg (by decide), if_neg (by decide), if_pos rfl]
      exact w_two hA hS hq hL hd (R := rec3 G (ad 70) n) (fun hd8 => i0 (d + 1) F (by omega) (by omega) (by omega)) hk M C O ro p h hC hO
theorem w_sum (hA : Inj ad) (hS : Sh G ad) (hq : gP G (ad 70) 12 = some (ad 126)) (hL : LSh G ad 126) (htl : tl ≤ 2000) (hT : ∀ k, k < tl → T k < 256) {d F : Nat} (hd : d ≤ 8) (hF : 3 * (8 - d) + 3 ≤ F) : wG G ad T tl (fun M => m_X12_isSum G M (ad 70)) d (pz (kdT T tl) F 0 d) := (w_rec3 hA hS hq hL htl hT 64).1 d F hd (by omega) hF
end Rec3b
