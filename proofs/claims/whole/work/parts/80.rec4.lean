/-! the reference's parser: tests -/
section Rec4
variable {G : gS} {ad : Nat → Nat} {T : Nat → Nat} {tl : Nat}
theorem qCmp_t {k : Nat} : qCmp k = true ↔ (k = 60 ∨ k = 62 ∨ k = 61 ∨ k = 128 ∨ k = 129) := by
  unfold qCmp
  simp only [Bool.or_eq_true, beq_iff_eq]
  omega
theorem w_rec4 (hA : Inj ad) (hS : Sh G ad) (hq : gP G (ad 70) 12 = some (ad 126)) (hL : LSh G ad 126) (htl : tl ≤ 2000) (hT : ∀ k, k < tl → T k < 256) : ∀ (n : Nat),
    (∀ d F, d ≤ 8 → 4 * (8 - d) + 4 ≤ n → 3 * (8 - d) + 6 ≤ F → wG G ad T tl (fun M => rec4 G (ad 70) n 0 M 0 0) d (pz (kdT T tl) F 3 d)) ∧
    (∀ d F, d ≤ 8 → 4 * (8 - d) + 3 ≤ n → 3 * (8 - d) + 5 ≤ F → wG G ad T tl (fun M => rec4 G (ad 70) n 1 M 0 0) d (pz (kdT T tl) F 4 d)) ∧
    (∀ d F, d ≤ 8 → 4 * (8 - d) + 2 ≤ n → 3 * (8 - d) + 4 ≤ F → wG G ad T tl (fun M => rec4 G (ad 70) n 2 M 0 0) d (pz (kdT T tl) F 5 d)) := by
  intro n
  have hn4 := nT_le (T := T) (tl := tl)
  induction n with
  | zero =>
    refine ⟨fun d F _ q => ?_, fun d F _ q => ?_, fun d F _ q => ?_⟩ <;> omega
  | succ n ih =>
    obtain ⟨i0, i1, i2⟩ := ih
    refine ⟨fun d F hd hn hF => ?_, fun d F hd hn hF => ?_, fun d F hd hn hF => ?_⟩
    · intro M C O ro p h hC hO
      obtain ⟨F, rfl⟩ : ∃ g, F = g + 1 := ⟨F - 1, by omega⟩
      have hX := i1 d F hd (by omega) (by omega)
      show PostM ad T tl d C O ro M (rec4 G (ad 70) (n + 1) 0 M 0 0) (pz (kdT T tl) (F + 1) 3 d p)
      rw [rec4, if_pos rfl, pz]
      unfold q_X12_isTest
      refine c_clm (hX M C O ro p h hC hO) ?_
      rintro M1 v ⟨f1, t1, n1⟩
      have hp := h.2.1.2.1
      cases e : (pz (kdT T tl) F 4 d p).1
      · obtain ⟨rfl, d', C', O', ro', h1⟩ := n1 e
        rw [show pLoop (kdT T tl) (fun q => pz (kdT T tl) F 4 d q) qOr 401 (pz (kdT T tl) F 4 d p) = pz (kdT T tl) F 4 d p from by rw [pLoop, if_neg (by rw [e, Bool.false_and]; decide)]]
        exact c_t rfl (c_ck (Or.inl rfl) (c_some ⟨f1, fun g => by rw [e] at g; exact absurd g (by decide), fun _ => ⟨rfl, _, _, _, _, h1⟩⟩))
      · obtain ⟨rfl, h1⟩ := t1 e
        refine c_f (by decide) (w_loop hA hS hq hL (X := fun M => rec4 G (ad 70) n 1 M 0 0) (q := qOr) (loop := q_X12_isTest_9 G (rec4 G (ad 70) n) (ad 70)) (fun k hk => ?_) hX (fun p hp => pz_rok hp) (fun m M p C O ro Q h H1 H2 => ?_) 401 0 fu M M1 C O ro p _ (by omega) (by unfold fu; omega) (Nat.zero_le _) hC hO e (pz_rok hp) f1 h1)
        · unfold qOr at hk
          rw [beq_iff_eq] at hk
          rw [hk]
          decide
        · rw [q_X12_isTest_9]
          refine w_etC hA hS h (t := 230) (vK_w (by decide)) (by decide) (by decide) (fun k M2 h2 f2 => ?_) (fun k M2 h2 f2 => ?_)
          · have := H1 (by rw [k]; rfl) M2 h2 f2
            rw [k] at this
            exact c_f (by decide) this
          · refine c_t rfl (H2 (fun q => ?_) M2 h2 f2)
            unfold qOr at q
            rw [beq_iff_eq] at q
            exact k q
    · intro M C O ro p h hC hO
      obtain ⟨F, rfl⟩ : ∃ g, F = g + 1 := ⟨F - 1, by omega⟩
      have hX := i2 d F hd (by omega) (by omega)
      show PostM ad T tl d C O ro M (rec4 G (ad 70) (n + 1) 1 M 0 0) (pz (kdT T tl) (F + 1) 4 d p)
      rw [rec4, if_neg (by decide), if_pos rfl, pz]
      unfold q_X12_isBoth
      refine c_clm (hX M C O ro p h hC hO) ?_
      rintro M1 v ⟨f1, t1, n1⟩
      have hp := h.2.1.2.1
      cases e : (pz (kdT T tl) F 5 d p).1
      · obtain ⟨rfl, d', C', O', ro', h1⟩ := n1 e
        rw [show pLoop (kdT T tl) (fun q => pz (kdT T tl) F 5 d q) qAnd 401 (pz (kdT T tl) F 5 d p) = pz (kdT T tl) F 5 d p from by rw [pLoop, if_neg (by rw [e, Bool.false_and]; decide)]]
        exact c_t rfl (c_ck (Or.inl rfl) (c_some ⟨f1, fun g => by rw [e] at g; exact absurd g (by decide), fun _ => ⟨rfl, _, _, _, _, h1⟩⟩))
      · obtain ⟨rfl, h1⟩ := t1 e
        refine c_f (by decide) (w_loop hA hS hq hL (X := fun M => rec4 G (ad 70) n 2 M 0 0) (q := qAnd) (loop := q_X12_isBoth_9 G (rec4 G (ad 70) n) (ad 70)) (fun k hk => ?_) hX (fun p hp => pz_rok hp) (fun m M p C O ro Q h H1 H2 => ?_) 401 0 fu M M1 C O ro p _ (by omega) (by unfold fu; omega) (Nat.zero_le _) hC hO e (pz_rok hp) f1 h1)
        · unfold qAnd at hk
          rw [beq_iff_eq] at hk
          rw [hk]
          decide
        · rw [q_X12_isBoth_9]
          refine w_etC hA hS h (t := 229) (vK_w (by decide)) (by decide) (by decide) (fun k M2 h2 f2 => ?_) (fun k M2 h2 f2 => ?_)
          · have := H1 (by rw [k]; rfl) M2 h2 f2
            rw [k] at this
            exact c_f (by decide) this
          · refine c_t rfl (H2 (fun q => ?_) M2 h2 f2)
            unfold qAnd at q
            rw [beq_iff_eq] at q
            exact k q
    · intro M C O ro p h hC hO
      obtain ⟨F, rfl⟩ : ∃ g, F = g + 1 := ⟨F - 1, by omega⟩
      show PostM ad T tl d C O ro M (rec4 G (ad 70) (n + 1) 2 M 0 0) (pz (kdT T tl) (F + 1) 5 d p)
      rw [rec4, if_neg (by decide), if_neg (by decide), if_pos rfl, pz]
      have hp := h.2.1.2.1
      unfold q_X12_isSingle q_X12_isSingle_66 q_X12_isSingle_103
      refine w_isC hS h (t := 228) (vK_w (by decide)) (by decide) (fun k1 => ?_) (fun k1 => ?_)
      · rw [if_pos k1]
        exact c_f (by decide) (w_neg hA hS hq hL (k := 228) rfl hd (X := fun M => rec4 G (ad 70) n 2 M 0 0) (fun hd8 => i2 (d + 1) F (by omega) (by omega) (by omega)) (fun p hp => pz_rok hp) (by decide) h (kdT_lt (by omega)) hC hO (Z := q_X12_isSingle_23 G (rec4 G (ad 70) n) (ad 70)) (fun M => rfl))
      rw [if_neg k1]
      refine c_t rfl (w_sgC hS h (t := 91) (vK_s rfl) (by decide) (fun k2 => ?_) (fun k2 => ?_))
      · rw [if_pos k2]
        refine c_f (by decide) (c_clm (w_deep hA h hd (kdT_lt (by omega))) ?_)
        rintro M1 r ⟨t1, n1, f1⟩
        by_cases g : d < 8
        · obtain ⟨rfl, h1⟩ := t1 g
          rw [if_pos g]
          refine c_f (by decide) (c_clm (i0 (d + 1) F (by omega) (by omega) (by omega) M1 C O ro (p + 1) h1 (by omega) (by omega)) ?_)
          rintro M2 v ⟨f2, t2, n2⟩
          cases e : (pz (kdT T tl) F 3 (d + 1) (p + 1)).1
          · rw [if_neg (show ¬ false = true by decide)]
            obtain ⟨rfl, d', C', O', ro', h2⟩ := n2 e
            exact c_t rfl (PM_no h2 (NFr_tr f1 f2))
          · rw [if_pos (show true = true from rfl)]
            obtain ⟨rfl, h2⟩ := t2 e
            obtain ⟨h3, f3⟩ := MR_up hA h2
            refine c_f (by decide) (c_wI (w_esC hA hS h3 (t := 93) (vK_s rfl) (by decide) (by decide) (fun k3 M4 h4 f4 => ?_) (fun k3 M4 h4 f4 => ?_)))
            · rw [if_pos k3]
              exact c_ck (Or.inr rfl) (c_some ⟨NFr_tr f1 (NFr_tr f2 (NFr_tr f3 f4)), fun _ => ⟨rfl, h4⟩, fun q => absurd (show true = false from q) (by decide)⟩)
            · rw [if_neg k3]
              exact PM_no h4 (NFr_tr f1 (NFr_tr f2 (NFr_tr f3 f4)))
        · obtain ⟨rfl, h1⟩ := n1 g
          rw [if_neg g]
          exact c_t rfl (PM_no h1 f1)
      rw [if_neg k2]
      refine c_t rfl (w_isC hS h (t := 226) (vK_w (by decide)) (by decide) (fun k3 => ?_) (fun k3 => ?_))
      · rw [if_pos (Or.inl k3)]
        exact c_f (by decide) (PM_ck (w_named hA hS hq hL h (by rw [k3]; decide) (by omega) hC hO))
      refine c_t rfl (w_isC hS h (t := 227) (vK_w (by decide)) (by decide) (fun k4 => ?_) (fun k4 => ?_))
      · rw [if_pos (Or.inr k4)]
        exact c_f (by decide) (PM_ck (w_named hA hS hq hL h (by rw [k4]; decide) (by omega) hC hO))
      rw [if_neg (show ¬ (kdT T tl p = 226 ∨ kdT T tl p = 227) by omega)]
      refine c_t rfl (c_clm (w_sum hA hS hq hL htl hT hd (F := F) (by omega) M C O ro p h hC hO) ?_)
      rintro M1 v ⟨f1, t1, n1⟩
      have r1 := pz_rok (T := T) (tl := tl) (f := F) (t := 0) (d := d) hp
      cases e : (pz (kdT T tl) F 0 d p).1
      · rw [if_neg (show ¬ false = true by decide)]
        obtain ⟨rfl, d', C', O', ro', h1⟩ := n1 e
        exact c_t rfl (PM_no h1 f1)
      rw [if_pos (show true = true from rfl)]
      obtain ⟨rfl, h1⟩ := t1 e
      obtain ⟨l1, l2⟩ := ln_ok (b := C.length) r1 e hC hO
      refine c_f (by decide) ?_
      have cmp : ∀ s0 : Int32, qCmp (kdT T tl (pz (kdT T tl) F 0 d p).2.1) = true → s0 = zn (mc (kdT T tl (pz (kdT T tl) F 0 d p).2.1)) → ¬ s0 = -1 → PostM ad T tl d C O ro M (q_X12_isSingle_192 G (rec4 G (ad 70) n) (ad 70) M1 s0) (if qCmp (kdT T tl (pz (kdT T tl) F 0 d p).2.1) then ((pz (kdT T tl) F 0 d ((pz (kdT T tl) F 0 d p).2.1 + 1)).1, (pz (kdT T tl) F 0 d ((pz (kdT T tl) F 0 d p).2.1 + 1)).2.1, (pz (kdT T tl) F 0 d p).2.2 ++ ((pz (kdT T tl) F 0 d ((pz (kdT T tl) F 0 d p).2.1 + 1)).2.2 ++ [(kdT T tl (pz (kdT T tl) F 0 d p).2.1, (pz (kdT T tl) F 0 d p).2.1)])) else (false, (pz (kdT T tl) F 0 d p).2.1, [])) := fun s0 hk hs hs1 => by
        rw [if_pos hk]
        have hk2 := qCmp_t.mp hk
        have hop : (opc (kdT T tl (pz (kdT T tl) F 0 d p).2.1) = 2 ∨ 5 ≤ opc (kdT T tl (pz (kdT T tl) F 0 d p).2.1)) ∧ isA (kdT T tl (pz (kdT T tl) F 0 d p).2.1) = false := by
          rcases hk2 with e | e | e | e | e <;> rw [e] <;> decide
        have hlt := kdT_lt (T := T) (tl := tl) (q := (pz (kdT T tl) F 0 d p).2.1) (by omega)
        unfold q_X12_isSingle_192
        obtain ⟨h2, f2⟩ := MR_nx hA h1 hlt
        refine c_f hs1 (c_wI (c_clm (w_sum hA hS hq hL htl hT hd (F := F) (by omega) _ _ _ _ _ h2 (by omega) (by omega)) ?_))
        rintro M3 v ⟨f3, t3, n3⟩
        have r2 := pz_rok (T := T) (tl := tl) (f := F) (t := 0) (d := d) (p := (pz (kdT T tl) F 0 d p).2.1 + 1) (by omega)
        cases e2 : (pz (kdT T tl) F 0 d ((pz (kdT T tl) F 0 d p).2.1 + 1)).1
        · obtain ⟨rfl, d', C', O', ro', h3⟩ := n3 e2
          exact c_t rfl (c_ck (Or.inl rfl) (c_some ⟨NFr_tr f1 (NFr_tr f2 f3), fun q => absurd (show false = true from q) (by decide), fun _ => ⟨rfl, _, _, _, _, h3⟩⟩))
        · obtain ⟨rfl, h3⟩ := t3 e2
          have hl : (C ++ enT T tl (pz (kdT T tl) F 0 d p).2.2 ++ enT T tl (pz (kdT T tl) F 0 d ((pz (kdT T tl) F 0 d p).2.1 + 1)).2.2).length < 800 := by
            have a1 := enT_len (T := T) (tl := tl) (pz (kdT T tl) F 0 d ((pz (kdT T tl) F 0 d p).2.1 + 1)).2.2
            have a2 := r2.2.1
            have a3 := r2.2.2 e2
            rw [List.length_append]
            omega
          refine c_f (by decide) (c_clm (w_put hA hq hL h3 hl) ?_)
          rintro M4 _ ⟨h4, f4⟩
          rw [hs] at h4
          exact c_ck (Or.inr rfl) (c_some ⟨NFr_tr f1 (NFr_tr f2 (NFr_tr f3 f4)), fun _ => ⟨rfl, MR_two (MR_op hop h4)⟩, fun q => absurd (show true = false from q) (by decide)⟩)
      refine w_sgC hS h1 (t := 60) (vK_s rfl) (by decide) (fun c1 => ?_) (fun c1 => ?_)
      · exact c_f (by decide) (cmp 48 (qCmp_t.mpr (by omega)) (by rw [c1]; rfl) (by decide))
      refine c_t rfl (w_sgC hS h1 (t := 62) (vK_s rfl) (by decide) (fun c2 => ?_) (fun c2 => ?_))
      · exact c_f (by decide) (cmp 49 (qCmp_t.mpr (by omega)) (by rw [c2]; rfl) (by decide))
      refine c_t rfl (w_sgC hS h1 (t := 61) (vK_s rfl) (by decide) (fun c3 => ?_) (fun c3 => ?_))
      · exact c_f (by decide) (cmp 51 (qCmp_t.mpr (by omega)) (by rw [c3]; rfl) (by decide))
      refine c_t rfl (w_isC hS h1 (t := 128) (by unfold vK; decide) (by decide) (fun c4 => ?_) (fun c4 => ?_))
      · exact c_f (by decide) (cmp 52 (qCmp_t.mpr (by omega)) (by rw [c4]; rfl) (by decide))
      refine c_t rfl (w_isC hS h1 (t := 129) (by unfold vK; decide) (by decide) (fun c5 => ?_) (fun c5 => ?_))
      · exact c_f (by decide) (cmp 53 (qCmp_t.mpr (by omega)) (by rw [c5]; rfl) (by decide))
      rw [if_neg (show ¬ qCmp (kdT T tl (pz (kdT T tl) F 0 d p).2.1) = true from fun q => by have := qCmp_t.mp q; omega)]
      unfold q_X12_isSingle_192
      exact c_t rfl (c_t rfl (PM_no h1 f1))
      all_goals exact fun q => absurd q (by decide)
theorem w_test (hA : Inj ad) (hS : Sh G ad) (hq : gP G (ad 70) 12 = some (ad 126)) (hL : LSh G ad 126) (htl : tl ≤ 2000) (hT : ∀ k, k < tl → T k < 256) : wG G ad T tl (fun M => m_X12_isTest G M (ad 70)) 0 (pTest T tl) := (w_rec4 hA hS hq hL htl hT 64).1 0 100 (by omega) (by omega) (by omega)
end Rec4
