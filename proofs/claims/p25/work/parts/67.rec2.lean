/-! the class's parser: tests -/
section Rec2
variable {G : gS} {ad : Nat → Nat} {T : Nat → Nat} {tl : Nat}
theorem r_loop2 (hA : Inj ad) (hS : Sh G ad) (hT : ∀ k, k < tl → T k < 256) {R : Nat → mS → Int32 → Int32 → Option (mS × Int32)} {c1 : Int32} {Rz : Nat → rS} {k1 tag : Nat} {q : Nat → Bool} {loop : Nat → mS → Int32 → Int32 → Option (mS × Int32)} (h1 : 2 ≤ k1 ∧ k1 < 1000) (hq : ∀ k, q k = true ↔ k = k1) (hk : isA k1 = false ∧ ¬ (k1 = 3 ∨ k1 = 220 ∨ k1 = 221))
    (hR : ∀ (M : mS) (σ : aS) (p : Nat), CR ad M T tl p σ → Post ad T tl M σ (R tag M c1 0) (Rz p)) (hRp : ∀ p, p ≤ nT T tl → p ≤ (Rz p).2.1)
    (hl : ∀ n M v2 v3, loop (n + 1) M v2 v3 = (if (400 : Int32) ≤ v3 then o_ck (v2 = 0 ∨ v2 = 1) (some (M, v2)) else (if v2 = 0 then o_ck (v2 = 0 ∨ v2 = 1) (some (M, v2)) else o_cl (m_X2_take G M (ad 55) (zn k1)) (fun M3 r4 => (if r4 = 0 then o_ck (v2 = 0 ∨ v2 = 1) (some (M3, v2)) else o_cl (R tag M3 c1 (0 : Int32)) (fun M7 r8 => o_rf (gP G (ad 55) 1) (fun q10 => o_cl (m_X3_addOperation G M7 q10 (zn k1) (0 : Int32)) (fun M11 r12 => o_bd (v3 + 1 : Int32) (fun x14 => loop n M11 r8 x14))))))))) :
    ∀ (d i f : Nat) (M0 M : mS) (σ0 : aS) (r : rS) (v2 : Int32), i + d = 401 → d < f → i ≤ r.2.1 → Fr (PF ad) M0 M → (r.1 = true → v2 = 1 ∧ CR ad M T tl r.2.1 (sOps T tl r.2.2 σ0)) → (r.1 = false → v2 = 0 ∧ ∃ σ', CR ad M T tl r.2.1 σ') → Post ad T tl M0 σ0 (loop f M v2 (zn i)) (pLoop (kdT T tl) Rz q d r) := by
  intro d
  induction d with
  | zero =>
    intro i f M0 M σ0 r v2 hi hf hp hF ht hff
    obtain ⟨f, rfl⟩ : ∃ g, f = g + 1 := ⟨f - 1, by omega⟩
    rw [hl, if_pos (by rw [show (400 : Int32) = zn 400 from rfl, zn_le (by omega) (by omega)]; omega), pLoop]
    refine c_ck ?_ (c_some ⟨hF, ht, hff⟩)
    cases e : r.1
    · exact Or.inl (hff e).1
    · exact Or.inr (ht e).1
  | succ d ih =>
    intro i f M0 M σ0 r v2 hi hf hp hF ht hff
    obtain ⟨f, rfl⟩ : ∃ g, f = g + 1 := ⟨f - 1, by omega⟩
    have ho : v2 = 0 ∨ v2 = 1 := by
      cases e : r.1
      · exact Or.inl (hff e).1
      · exact Or.inr (ht e).1
    have hn := nT_le (T := T) (tl := tl)
    have stop : ¬ (r.1 && q (kdT T tl r.2.1)) = true → Post ad T tl M0 σ0 (o_ck (v2 = 0 ∨ v2 = 1) (some (M, v2))) (pLoop (kdT T tl) Rz q (d + 1) r) := fun g => by
      rw [pLoop, if_neg g]
      exact c_ck ho (c_some ⟨hF, ht, hff⟩)
    rw [hl]
    refine c_if (fun g => ?_) (fun g => ?_)
    · rw [show (400 : Int32) = zn 400 from rfl, zn_le (by omega) (by omega)] at g
      refine stop (fun q1 => ?_)
      rw [Bool.and_eq_true] at q1
      have := kdT_lt (T := T) (tl := tl) (q := r.2.1) (by have e := (hq _).mp q1.2; omega)
      omega
    refine c_if (fun g2 => ?_) (fun g2 => ?_)
    · refine stop (fun q1 => ?_)
      rw [Bool.and_eq_true] at q1
      rw [(ht q1.1).1] at g2
      exact absurd g2 (by decide)
    have e1 : r.1 = true := by
      cases e : r.1
      · exact absurd (hff e).1 g2
      · rfl
    have hv1 := (ht e1).1
    have hc := (ht e1).2
    refine c_clm (r_take hA hS hT hc h1.1 h1.2) ?_
    rintro M1 v ⟨a1, b1, f1⟩
    by_cases k : kdT T tl r.2.1 = k1
    · obtain ⟨rfl, h1'⟩ := a1 k
      have hlt := kdT_lt (T := T) (tl := tl) (q := r.2.1) (by omega)
      refine c_f (by decide) (c_clm (hR M1 _ _ h1') ?_)
      rintro M2 v ⟨b2, c2, d2⟩
      rw [zn_one, pLoop, if_pos (by rw [e1, (hq _).mpr k]; rfl)]
      have hle := hRp (r.2.1 + 1) (by omega)
      refine c_rf (sh_q1 hS) ?_
      cases e2 : (Rz (r.2.1 + 1)).1
      · obtain ⟨hv, σ', hσ⟩ := d2 e2
        refine c_clm (r_op0 hA hS hσ 0 hk) ?_
        rintro M3 _ ⟨a3, b3⟩
        refine c_bd ?_
        exact ih (i + 1) f M0 M3 σ0 (false, _, _) v (by omega) (by omega) (by show i + 1 ≤ (Rz (r.2.1 + 1)).2.1; omega) (Fr_tr hF (Fr_tr f1 (Fr_tr b2 b3))) (fun q1 => absurd (show false = true from q1) (by decide)) (fun _ => ⟨hv, _, a3⟩)
      · obtain ⟨hv, hσ⟩ := c2 e2
        refine c_clm (r_op0 hA hS hσ r.2.1 hk) ?_
        rintro M3 _ ⟨a3, b3⟩
        refine c_bd ?_
        refine ih (i + 1) f M0 M3 σ0 (true, _, _) v (by omega) (by omega) (by show i + 1 ≤ (Rz (r.2.1 + 1)).2.1; omega) (Fr_tr hF (Fr_tr f1 (Fr_tr b2 b3))) (fun _ => ⟨hv, ?_⟩) (fun q1 => absurd (show true = false from q1) (by decide))
        show CR ad M3 T tl (Rz (r.2.1 + 1)).2.1 (sOps T tl (r.2.2 ++ ((Rz (r.2.1 + 1)).2.2 ++ [(kdT T tl r.2.1, r.2.1)])) σ0)
        rw [sOps_app, sOps_app, k]
        exact a3
    · obtain ⟨rfl, h1'⟩ := b1 k
      refine c_t rfl ?_
      rw [pLoop, if_neg (fun q1 => by
        rw [Bool.and_eq_true] at q1
        exact k ((hq _).mp q1.2))]
      refine c_ck ho (c_some ⟨Fr_tr hF f1, fun _ => ⟨hv1, h1'⟩, fun q1 => ?_⟩)
      rw [e1] at q1
      exact absurd q1 (by decide)
abbrev rH (G : gS) (ad : Nat → Nat) (T : Nat → Nat) (tl n F : Nat) (tag t d : Nat) : Prop := ∀ (M : mS) (σ : aS) (p : Nat), CR ad M T tl p σ → Post ad T tl M σ (rec2 G (ad 55) n tag M (zn d) 0) (pz (kdT T tl) F t d p)
theorem r_cmp {M : mS} {k : Nat} (hk : k < 1000) : m_X2_isComparison G M (zn k) = some (M, if qCmp k then 1 else 0) := by
  have no : ∀ {n : Nat}, n < 1000 → k ≠ n → ¬ zn k = OfNat.ofNat n := fun hn h q => h ((zn_lit hk hn).mp q)
  have ye : ∀ {n : Nat}, n < 1000 → k = n → zn k = OfNat.ofNat n := fun hn h => (zn_lit hk hn).mpr h
  have hq : qCmp k = true ↔ (k = 60 ∨ k = 62 ∨ k = 61 ∨ k = 128 ∨ k = 129) := by
    unfold qCmp
    simp only [Bool.or_eq_true, beq_iff_eq]
    omega
  refine cl_eq ?_
  unfold m_X2_isComparison m_X2_isComparison_32
  have lf : (k = 60 ∨ k = 62 ∨ k = 61 ∨ k = 128 ∨ k = 129) → p_cl (o_ck ((1 : Int32) = 0 ∨ (1 : Int32) = 1) (some (M, (1 : Int32)))) (fun M' r => M' = M ∧ r = if qCmp k = true then 1 else 0) := fun h => c_ck (Or.inr rfl) (c_some ⟨rfl, by rw [if_pos (hq.mpr h)]⟩)
  by_cases e1 : k = 60
  · exact c_t (ye (n := 60) (by decide) e1) (lf (by omega))
  refine c_f (no (n := 60) (by decide) e1) ?_
  by_cases e2 : k = 62
  · exact c_t (ye (n := 62) (by decide) e2) (lf (by omega))
  refine c_f (no (n := 62) (by decide) e2) ?_
  by_cases e3 : k = 61
  · exact c_t (ye (n := 61) (by decide) e3) (lf (by omega))
  refine c_f (no (n := 61) (by decide) e3) ?_
  by_cases e4 : k = 128
  · exact c_t (ye (n := 128) (by decide) e4) (lf (by omega))
  refine c_f (no (n := 128) (by decide) e4) ?_
  by_cases e5 : k = 129
  · exact c_t (ye (n := 129) (by decide) e5) (lf (by omega))
  refine c_f (no (n := 129) (by decide) e5) (c_ck (Or.inl rfl) (c_some ⟨rfl, ?_⟩))
  rw [if_neg (fun q => by have := hq.mp q; omega)]
theorem r_rec2 (hA : Inj ad) (hS : Sh G ad) (hT : ∀ k, k < tl → T k < 256) : ∀ (n : Nat),
    (∀ d F, d ≤ 8 → 4 * (8 - d) + 4 ≤ n → 3 * (8 - d) + 6 ≤ F → rH G ad T tl n F 0 3 d) ∧
    (∀ d F, d ≤ 8 → 4 * (8 - d) + 3 ≤ n → 3 * (8 - d) + 5 ≤ F → rH G ad T tl n F 1 4 d) ∧
    (∀ d F, d ≤ 8 → 4 * (8 - d) + 2 ≤ n → 3 * (8 - d) + 4 ≤ F → rH G ad T tl n F 2 5 d) ∧
    (∀ d F, d ≤ 8 → 4 * (8 - d) + 1 ≤ n → 3 * (8 - d) + 3 ≤ F → ∀ (M : mS) (σ : aS) (p : Nat), CR ad M T tl p σ → p < nT T tl → Post ad T tl M σ (rec2 G (ad 55) n 3 M (zn d) 0) (pNeg (fun q => pz (kdT T tl) F 5 (d + 1) q) d p 228)) ∧
    (∀ d F, d ≤ 8 → 4 * (8 - d) + 1 ≤ n → 3 * (8 - d) + 3 ≤ F → ∀ (M : mS) (σ : aS) (p : Nat), CR ad M T tl p σ → p < nT T tl → Post ad T tl M σ (rec2 G (ad 55) n 4 M (zn d) 0) (if d < 8 then (if (pz (kdT T tl) F 3 (d + 1) (p + 1)).1 then (if kdT T tl (pz (kdT T tl) F 3 (d + 1) (p + 1)).2.1 = 93 then (true, (pz (kdT T tl) F 3 (d + 1) (p + 1)).2.1 + 1, (pz (kdT T tl) F 3 (d + 1) (p + 1)).2.2) else (false, (pz (kdT T tl) F 3 (d + 1) (p + 1)).2.1, [])) else (false, (pz (kdT T tl) F 3 (d + 1) (p + 1)).2.1, [])) else (false, p, []))) := by
  intro n
  induction n with
  | zero =>
    refine ⟨fun d F _ q => ?_, fun d F _ q => ?_, fun d F _ q => ?_, fun d F _ q => ?_, fun d F _ q => ?_⟩ <;> omega
  | succ n ih =>
    obtain ⟨i0, i1, i2, i3, i4⟩ := ih
    refine ⟨fun d F hd hn hF M σ p h => ?_, fun d F hd hn hF M σ p h => ?_, fun d F hd hn hF M σ p h => ?_, fun d F hd hn hF M σ p h hp => ?_, fun d F hd hn hF M σ p h hp => ?_⟩
    · obtain ⟨F, rfl⟩ : ∃ g, F = g + 1 := ⟨F - 1, by omega⟩
      rw [rec2, if_pos rfl, pz]
      unfold q_X2_test
      refine c_clm (i1 d F hd (by omega) (by omega) M σ p h) ?_
      rintro M1 v ⟨f1, t1, n1⟩
      exact r_loop2 hA hS hT (k1 := 230) (tag := 1) (R := rec2 G (ad 55) n) (loop := q_X2_test_8 G (rec2 G (ad 55) n) (ad 55) (zn d)) (by decide) (fun k => by unfold qOr; rw [beq_iff_eq]) (by decide) (i1 d F hd (by omega) (by omega)) (fun p hp => (pz_ge hp).1) (fun n M v2 v3 => rfl) 401 0 fu M M1 σ _ v (by omega) (by unfold fu; omega) (Nat.zero_le _) f1 t1 n1
    · obtain ⟨F, rfl⟩ : ∃ g, F = g + 1 := ⟨F - 1, by omega⟩
      rw [rec2, if_neg (by decide), if_pos rfl, pz]
      unfold q_X2_both
      refine c_clm (i2 d F hd (by omega) (by omega) M σ p h) ?_
      rintro M1 v ⟨f1, t1, n1⟩
      exact r_loop2 hA hS hT (k1 := 229) (tag := 2) (R := rec2 G (ad 55) n) (loop := q_X2_both_8 G (rec2 G (ad 55) n) (ad 55) (zn d)) (by decide) (fun k => by unfold qAnd; rw [beq_iff_eq]) (by decide) (i2 d F hd (by omega) (by omega)) (fun p hp => (pz_ge hp).1) (fun n M v2 v3 => rfl) 401 0 fu M M1 σ _ v (by omega) (by unfold fu; omega) (Nat.zero_le _) f1 t1 n1
    · obtain ⟨F, rfl⟩ : ∃ g, F = g + 1 := ⟨F - 1, by omega⟩
      have hb := kdT_le (T := T) (tl := tl) hT (q := p)
      rw [rec2, if_neg (by decide), if_neg (by decide), if_pos rfl, pz]
      unfold q_X2_single q_X2_single_83
      rw [r_kind hS h]
      refine c_cl (c_some ?_)
      have no : ∀ {n : Nat}, n < 1000 → kdT T tl p ≠ n → ¬ zn (kdT T tl p) = OfNat.ofNat n := fun hn h q => h ((zn_lit hb hn).mp q)
      have ye : ∀ {n : Nat}, n < 1000 → kdT T tl p = n → zn (kdT T tl p) = OfNat.ofNat n := fun hn h => (zn_lit hb hn).mpr h
      by_cases k1 : kdT T tl p = 228
      · rw [if_pos k1]
        exact c_f (no (n := 91) (by decide) (by omega)) (c_f (no (n := 226) (by decide) (by omega)) (c_f (no (n := 227) (by decide) (by omega)) (c_t (ye (n := 228) (by decide) k1) (Post_ck (i3 d F hd (by omega) (by omega) M σ p h (kdT_lt (by omega)))))))
      rw [if_neg k1]
      by_cases k2 : kdT T tl p = 91
      · rw [if_pos k2]
        exact c_t (ye (n := 91) (by decide) k2) (Post_ck (i4 d F hd (by omega) (by omega) M σ p h (kdT_lt (by omega))))
      rw [if_neg k2]
      refine c_f (no (n := 91) (by decide) (by omega)) ?_
      by_cases k3 : kdT T tl p = 226 ∨ kdT T tl p = 227
      · rw [if_pos k3]
        have lf := Post_ck (r_antOp hA hS hT h (by rcases k3 with e | e <;> rw [e] <;> decide) (by omega))
        rcases k3 with e | e
        · exact c_t (ye (n := 226) (by decide) e) lf
        · exact c_f (no (n := 226) (by decide) (by omega)) (c_t (ye (n := 227) (by decide) e) lf)
      rw [if_neg k3]
      refine c_f (no (n := 226) (by decide) (by omega)) (c_f (no (n := 227) (by decide) (by omega)) (c_f (no (n := 228) (by decide) (by omega)) ?_))
      refine c_clm (r_sum hA hS hT hd (F := F) (by omega) h) ?_
      rintro M1 v ⟨f1, t1, n1⟩
      cases e : (pz (kdT T tl) F 0 d p).1
      · rw [if_neg (show ¬ false = true by decide)]
        obtain ⟨rfl, σ', h1⟩ := n1 e
        exact c_t rfl (Post_no h1 f1)
      rw [if_pos (show true = true from rfl)]
      obtain ⟨rfl, h1⟩ := t1 e
      refine c_f (by decide) ?_
      have hb1 := kdT_le (T := T) (tl := tl) hT (q := (pz (kdT T tl) F 0 d p).2.1)
      rw [r_kind hS h1]
      refine c_cl (c_some ?_)
      rw [r_cmp hb1]
      refine c_cl (c_some ?_)
      by_cases k4 : qCmp (kdT T tl (pz (kdT T tl) F 0 d p).2.1) = true
      · have hk := isA_c (Or.inr (Or.inr (Or.inr (Or.inr k4))))
        have hk3 : ¬ (kdT T tl (pz (kdT T tl) F 0 d p).2.1 = 3 ∨ kdT T tl (pz (kdT T tl) F 0 d p).2.1 = 220 ∨ kdT T tl (pz (kdT T tl) F 0 d p).2.1 = 221) := by
          rintro (q | q | q) <;> rw [q] at k4 <;> exact absurd k4 (by decide)
        rw [if_pos k4, if_pos k4]
        refine c_f (by decide) ?_
        rw [r_kind hS h1]
        refine c_cl (c_some (c_clm (r_adv hA hS h1 (kdT_lt hk.1)) ?_))
        rintro M2 _ ⟨h2, f2⟩
        refine c_clm (r_sum hA hS hT hd (F := F) (by omega) h2) ?_
        rintro M3 v ⟨f3, t3, n3⟩
        refine c_rf (sh_q1 hS) ?_
        cases e3 : (pz (kdT T tl) F 0 d ((pz (kdT T tl) F 0 d p).2.1 + 1)).1
        · obtain ⟨rfl, σ', h3⟩ := n3 e3
          refine c_clm (r_op0 hA hS h3 p ⟨hk.2, hk3⟩) ?_
          rintro M4 _ ⟨h4, f4⟩
          exact c_ck (Or.inl rfl) (c_some ⟨Fr_tr f1 (Fr_tr f2 (Fr_tr f3 f4)), fun q => absurd (show false = true from q) (by decide), fun _ => ⟨rfl, _, h4⟩⟩)
        · obtain ⟨rfl, h3⟩ := t3 e3
          refine c_clm (r_op0 hA hS h3 (pz (kdT T tl) F 0 d p).2.1 ⟨hk.2, hk3⟩) ?_
          rintro M4 _ ⟨h4, f4⟩
          refine c_ck (Or.inr rfl) (c_some ⟨Fr_tr f1 (Fr_tr f2 (Fr_tr f3 f4)), fun _ => ⟨rfl, ?_⟩, fun q => absurd (show true = false from q) (by decide)⟩)
          show CR ad M4 T tl _ (sOps T tl (_ ++ (_ ++ [_])) σ)
          rw [sOps_app, sOps_app]
          exact h4
      · rw [if_neg k4, if_neg k4]
        exact c_t rfl (Post_no h1 f1)
      all_goals exact fun q => absurd q (by decide)
    · rw [rec2, if_neg (by decide), if_neg (by decide), if_neg (by decide), if_pos rfl]
      unfold q_X2_negatedSingle
      rw [zn_one]
      exact r_neg hA hS (k := 228) hd (by decide) (X := fun M => rec2 G (ad 55) n 2 M (zn (d + 1)) 0) hp (fun hd8 => i2 (d + 1) F (by omega) (by omega) (by omega)) h
    · rw [rec2, if_neg (by decide), if_neg (by decide), if_neg (by decide), if_neg (by decide), if_pos rfl]
      unfold q_X2_bracket q_X2_bracket_35
      refine c_if (fun g => ?_) (fun g => ?_)
      · rw [show (8 : Int32) = zn 8 from rfl, zn_lt (by omega) (by omega)] at g
        rw [if_pos g]
        refine c_clm (r_adv hA hS h hp) ?_
        rintro M1 _ ⟨h1, f1⟩
        rw [zn_one]
        refine c_clm (i0 (d + 1) F (by omega) (by omega) (by omega) M1 σ (p + 1) h1) ?_
        rintro M2 v ⟨f2, t2, n2⟩
        cases e : (pz (kdT T tl) F 3 (d + 1) (p + 1)).1
        · rw [if_neg (show ¬ false = true by decide)]
          obtain ⟨rfl, σ', h2⟩ := n2 e
          exact c_t rfl (Post_no h2 (Fr_tr f1 f2))
        rw [if_pos (show true = true from rfl)]
        obtain ⟨rfl, h2⟩ := t2 e
        refine c_f (by decide) (c_clm (r_take hA hS hT h2 (k := 93) (by decide) (by decide)) ?_)
        rintro M3 v ⟨a3, b3, f3⟩
        by_cases k2 : kdT T tl (pz (kdT T tl) F 3 (d + 1) (p + 1)).2.1 = 93
        · obtain ⟨rfl, h3⟩ := a3 k2
          rw [if_pos k2]
          exact c_f (by decide) (c_ck (Or.inr rfl) (c_some ⟨Fr_tr f1 (Fr_tr f2 f3), fun _ => ⟨rfl, h3⟩, fun q => absurd (show true = false from q) (by decide)⟩))
        · obtain ⟨rfl, h3⟩ := b3 k2
          rw [if_neg k2]
          exact c_t rfl (Post_no h3 (Fr_tr f1 (Fr_tr f2 f3)))
      · rw [show (8 : Int32) = zn 8 from rfl, zn_lt (by omega) (by omega)] at g
        rw [if_neg g]
        exact Post_no h Fr_rf
/-- a whole test -/
def pTest (T : Nat → Nat) (tl p : Nat) : rS := pz (kdT T tl) 100 3 0 p
theorem r_test (hA : Inj ad) (hS : Sh G ad) (hT : ∀ k, k < tl → T k < 256) {M : mS} {σ : aS} {p : Nat} (h : CR ad M T tl p σ) : Post ad T tl M σ (m_X2_test G M (ad 55) 0) (pTest T tl p) := (r_rec2 hA hS hT 64).1 0 100 (by omega) (by omega) (by omega) M σ p h
end Rec2
