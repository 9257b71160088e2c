/-! the class's parser: the two nests of calls -/
section Rec
variable {G : gS} {ad : Nat → Nat} {T : Nat → Nat} {tl : Nat}
theorem pz_ge {f t d p : Nat} (hp : p ≤ nT T tl) : p ≤ (pz (kdT T tl) f t d p).2.1 ∧ (pz (kdT T tl) f t d p).2.1 ≤ nT T tl :=
  have h := pz_ok (kd := kdT T tl) (n := nT T tl) (fun _ _ h => kdT_lt h) f t d p hp
  ⟨h.1, h.2.1⟩
abbrev rG (G : gS) (ad : Nat → Nat) (T : Nat → Nat) (tl n F : Nat) : Nat → Nat → Prop
  | t, d => ∀ (M : mS) (σ : aS) (p : Nat), CR ad M T tl p σ → Post ad T tl M σ (rec1 G (ad 55) n t M (zn d) 0) (pz (kdT T tl) F t d p)
theorem r_grp (hA : Inj ad) (hS : Sh G ad) (hT : ∀ k, k < tl → T k < 256) {n F d : Nat} (hd : d ≤ 8) (ih : d < 8 → rG G ad T tl n F 0 (d + 1)) {k : Nat} {L : List sO} (hk : (k = 225 ∧ ∃ x, L = [(225, x)]) ∨ (k = 40 ∧ L = [])) {M : mS} {σ : aS} {p : Nat} (h : CR ad M T tl p σ) : Post ad T tl M σ (q_X2_group G (rec1 G (ad 55) n) M (ad 55) (zn d) (zn k)) (pGrp (kdT T tl) (fun q => pz (kdT T tl) F 0 (d + 1) q) d p L) := by
  unfold q_X2_group pGrp
  refine c_if (fun g => ?_) (fun g => ?_)
  · rw [show (8 : Int32) = zn 8 from rfl, zn_le (by omega) (by omega)] at g
    rw [if_pos g]
    exact Post_no h Fr_rf
  rw [show (8 : Int32) = zn 8 from rfl, zn_le (by omega) (by omega)] at g
  rw [if_neg g]
  refine c_clm (r_take hA hS hT h (k := 40) (by decide) (by decide)) ?_
  rintro M1 r ⟨a1, b1, f1⟩
  by_cases k1 : kdT T tl p = 40
  · obtain ⟨rfl, h1⟩ := a1 k1
    rw [if_pos k1, zn_one]
    refine c_f (by decide) (c_clm (ih (by omega) M1 σ (p + 1) h1) ?_)
    rintro M2 v ⟨f2, t2, n2⟩
    cases e : (pz (kdT T tl) F 0 (d + 1) (p + 1)).1
    · rw [if_neg (show ¬ false = true by decide)]
      obtain ⟨rfl, σ', h2⟩ := n2 e
      exact c_t rfl (Post_no h2 (Fr_tr f1 f2))
    · rw [if_pos (show true = true from rfl)]
      obtain ⟨rfl, h2⟩ := t2 e
      refine c_f (by decide) (c_clm (r_take hA hS hT h2 (k := 41) (by decide) (by decide)) ?_)
      rintro M3 v ⟨a3, b3, f3⟩
      by_cases k2 : kdT T tl (pz (kdT T tl) F 0 (d + 1) (p + 1)).2.1 = 41
      · obtain ⟨rfl, h3⟩ := a3 k2
        rw [if_pos k2]
        refine c_f (by decide) ?_
        unfold q_X2_group_52
        rcases hk with ⟨rfl, x, rfl⟩ | ⟨rfl, rfl⟩
        · refine c_t rfl (c_rf (sh_q1 hS) (c_clm (r_op0 hA hS h3 (k := 225) x (by decide)) ?_))
          rintro M4 _ ⟨h4, f4⟩
          refine c_ck (Or.inr rfl) (c_some ⟨Fr_tr f1 (Fr_tr f2 (Fr_tr f3 f4)), fun _ => ⟨rfl, ?_⟩, fun q => absurd (show true = false from q) (by decide)⟩)
          show CR ad M4 T tl _ (sOps T tl ((pz (kdT T tl) F 0 (d + 1) (p + 1)).2.2 ++ [(225, x)]) σ)
          rw [sOps_app]
          exact h4
        · refine c_f (by decide) (c_ck (Or.inr rfl) (c_some ⟨Fr_tr f1 (Fr_tr f2 f3), fun _ => ⟨rfl, ?_⟩, fun q => absurd (show true = false from q) (by decide)⟩))
          show CR ad M3 T tl _ (sOps T tl ((pz (kdT T tl) F 0 (d + 1) (p + 1)).2.2 ++ []) σ)
          rw [List.append_nil]
          exact h3
      · obtain ⟨rfl, h3⟩ := b3 k2
        rw [if_neg k2]
        exact c_t rfl (Post_no h3 (Fr_tr f1 (Fr_tr f2 f3)))
  · obtain ⟨rfl, h1⟩ := b1 k1
    rw [if_neg k1]
    exact c_t rfl (Post_no h1 f1)
theorem r_cho (hA : Inj ad) (hS : Sh G ad) (hT : ∀ k, k < tl → T k < 256) {n F d : Nat} (hd : d ≤ 8) (ih : d < 8 → rG G ad T tl n F 0 (d + 1)) {M : mS} {σ : aS} {p : Nat} (hk : kdT T tl p = 231 ∨ kdT T tl p = 232) (h : CR ad M T tl p σ) : Post ad T tl M σ (q_X2_choice G (rec1 G (ad 55) n) M (ad 55) (zn d)) (pTwo (kdT T tl) (fun q => pz (kdT T tl) F 0 (d + 1) q) d (p + 1) [(kdT T tl p, p)]) := by
  have hkA : isA (kdT T tl p) = false ∧ ¬ (kdT T tl p = 3 ∨ kdT T tl p = 220 ∨ kdT T tl p = 221) := by
    rcases hk with e | e <;> rw [e] <;> decide
  unfold q_X2_choice pTwo
  rw [r_kind hS h]
  refine c_cl (c_some (c_clm (r_adv hA hS h (kdT_lt (by omega))) ?_))
  rintro M0 _ ⟨h, f0⟩
  refine c_if (fun g => ?_) (fun g => ?_)
  · rw [show (8 : Int32) = zn 8 from rfl, zn_le (by omega) (by omega)] at g
    rw [if_pos g]
    exact Post_no h f0
  rw [show (8 : Int32) = zn 8 from rfl, zn_le (by omega) (by omega)] at g
  rw [if_neg g]
  refine c_clm (r_take hA hS hT h (k := 40) (by decide) (by decide)) ?_
  rintro M1 r ⟨a1, b1, f1⟩
  by_cases k1 : kdT T tl (p + 1) = 40
  · obtain ⟨rfl, h1⟩ := a1 k1
    rw [if_pos k1, zn_one]
    refine c_f (by decide) (c_clm (ih (by omega) M1 σ (p + 1 + 1) h1) ?_)
    rintro M2 v ⟨f2, t2, n2⟩
    cases e : (pz (kdT T tl) F 0 (d + 1) (p + 1 + 1)).1
    · rw [if_neg (show ¬ false = true by decide)]
      obtain ⟨rfl, σ', h2⟩ := n2 e
      exact c_t rfl (Post_no h2 (Fr_tr f0 (Fr_tr f1 f2)))
    · rw [if_pos (show true = true from rfl)]
      obtain ⟨rfl, h2⟩ := t2 e
      refine c_f (by decide) (c_clm (r_take hA hS hT h2 (k := 44) (by decide) (by decide)) ?_)
      rintro M3 v ⟨a3, b3, f3⟩
      by_cases k2 : kdT T tl (pz (kdT T tl) F 0 (d + 1) (p + 1 + 1)).2.1 = 44
      · obtain ⟨rfl, h3⟩ := a3 k2
        rw [if_pos k2]
        refine c_f (by decide) (c_clm (ih (by omega) M3 _ _ h3) ?_)
        rintro M4 v ⟨f4, t4, n4⟩
        cases e4 : (pz (kdT T tl) F 0 (d + 1) ((pz (kdT T tl) F 0 (d + 1) (p + 1 + 1)).2.1 + 1)).1
        · rw [if_neg (show ¬ false = true by decide)]
          obtain ⟨rfl, σ', h4⟩ := n4 e4
          exact c_t rfl (Post_no h4 (Fr_tr f0 (Fr_tr f1 (Fr_tr f2 (Fr_tr f3 f4)))))
        · rw [if_pos (show true = true from rfl)]
          obtain ⟨rfl, h4⟩ := t4 e4
          refine c_f (by decide) (c_clm (r_take hA hS hT h4 (k := 41) (by decide) (by decide)) ?_)
          rintro M5 v ⟨a5, b5, f5⟩
          by_cases k3 : kdT T tl (pz (kdT T tl) F 0 (d + 1) ((pz (kdT T tl) F 0 (d + 1) (p + 1 + 1)).2.1 + 1)).2.1 = 41
          · obtain ⟨rfl, h5⟩ := a5 k3
            rw [if_pos k3]
            refine c_f (by decide) (c_rf (sh_q1 hS) (c_clm (r_op0 hA hS h5 p hkA) ?_))
            rintro M6 _ ⟨h6, f6⟩
            refine c_ck (Or.inr rfl) (c_some ⟨Fr_tr f0 (Fr_tr f1 (Fr_tr f2 (Fr_tr f3 (Fr_tr f4 (Fr_tr f5 f6))))), fun _ => ⟨rfl, ?_⟩, fun q => absurd (show true = false from q) (by decide)⟩)
            show CR ad M6 T tl _ (sOps T tl (_ ++ (_ ++ [(kdT T tl p, p)])) σ)
            rw [sOps_app, sOps_app]
            exact h6
          · obtain ⟨rfl, h5⟩ := b5 k3
            rw [if_neg k3]
            exact c_t rfl (Post_no h5 (Fr_tr f0 (Fr_tr f1 (Fr_tr f2 (Fr_tr f3 (Fr_tr f4 f5))))))
      · obtain ⟨rfl, h3⟩ := b3 k2
        rw [if_neg k2]
        exact c_t rfl (Post_no h3 (Fr_tr f0 (Fr_tr f1 (Fr_tr f2 f3))))
  · obtain ⟨rfl, h1⟩ := b1 k1
    rw [if_neg k1]
    exact c_t rfl (Post_no h1 (Fr_tr f0 f1))
/-- a - or a not, and what stands behind it -/
theorem r_neg (hA : Inj ad) (hS : Sh G ad) {d k : Nat} (hd : d ≤ 8) (hk : isA k = false ∧ ¬ (k = 3 ∨ k = 220 ∨ k = 221)) {X : mS → Option (mS × Int32)} {Rz : Nat → rS} {M : mS} {σ : aS} {p : Nat} (hp : p < nT T tl) (ih : d < 8 → ∀ (M : mS) (σ : aS) (p : Nat), CR ad M T tl p σ → Post ad T tl M σ (X M) (Rz p)) (h : CR ad M T tl p σ) : Post ad T tl M σ (if zn d < (8 : Int32) then o_cl (m_X2_advance G M (ad 55)) (fun M2 r3 => o_cl (X M2) (fun M5 r6 => o_rf (gP G (ad 55) 1) (fun q8 => o_cl (m_X3_addOperation G M5 q8 (zn k) (0 : Int32)) (fun M9 r10 => o_ck (r6 = 0 ∨ r6 = 1) (some (M9, r6)))))) else o_ck ((0 : Int32) = 0 ∨ (0 : Int32) = 1) (some (M, (0 : Int32)))) (pNeg Rz d p k) := by
  unfold pNeg
  refine c_if (fun g => ?_) (fun g => ?_)
  · rw [show (8 : Int32) = zn 8 from rfl, zn_lt (by omega) (by omega)] at g
    rw [if_pos g]
    refine c_clm (r_adv hA hS h hp) ?_
    rintro M1 _ ⟨h1, f1⟩
    refine c_clm (ih g M1 _ _ h1) ?_
    rintro M2 v ⟨f2, t2, n2⟩
    refine c_rf (sh_q1 hS) ?_
    cases e : (Rz (p + 1)).1
    · obtain ⟨rfl, σ', h2⟩ := n2 e
      refine c_clm (r_op0 hA hS h2 p hk) ?_
      rintro M3 _ ⟨h3, f3⟩
      exact c_ck (Or.inl rfl) (c_some ⟨Fr_tr f1 (Fr_tr f2 f3), fun q => absurd (show false = true from q) (by decide), fun _ => ⟨rfl, _, h3⟩⟩)
    · obtain ⟨rfl, h2⟩ := t2 e
      refine c_clm (r_op0 hA hS h2 p hk) ?_
      rintro M3 _ ⟨h3, f3⟩
      refine c_ck (Or.inr rfl) (c_some ⟨Fr_tr f1 (Fr_tr f2 f3), fun _ => ⟨rfl, ?_⟩, fun q => absurd (show true = false from q) (by decide)⟩)
      show CR ad M3 T tl _ (sOps T tl ((Rz (p + 1)).2.2 ++ [(k, p)]) σ)
      rw [sOps_app]
      exact h3
  · rw [show (8 : Int32) = zn 8 from rfl, zn_lt (by omega) (by omega)] at g
    rw [if_neg g]
    exact Post_no h Fr_rf
theorem r_rec1 (hA : Inj ad) (hS : Sh G ad) (hT : ∀ k, k < tl → T k < 256) : ∀ (n : Nat),
    (∀ d F, d ≤ 8 → 4 * (8 - d) + 4 ≤ n → 3 * (8 - d) + 3 ≤ F → rG G ad T tl n F 0 d) ∧
    (∀ d F, d ≤ 8 → 4 * (8 - d) + 3 ≤ n → 3 * (8 - d) + 2 ≤ F → rG G ad T tl n F 1 d) ∧
    (∀ d F, d ≤ 8 → 4 * (8 - d) + 2 ≤ n → 3 * (8 - d) + 1 ≤ F → rG G ad T tl n F 2 d) ∧
    (∀ d F, d ≤ 8 → 4 * (8 - d) + 1 ≤ n → 3 * (8 - d) ≤ F → ∀ (M : mS) (σ : aS) (p : Nat), CR ad M T tl p σ → p < nT T tl → Post ad T tl M σ (rec1 G (ad 55) n 3 M (zn d) 0) (pNeg (fun q => pz (kdT T tl) F 2 (d + 1) q) d p 4)) ∧
    (∀ d F, d ≤ 8 → 4 * (8 - d) + 1 ≤ n → 3 * (8 - d) ≤ F → ∀ (k : Nat) (L : List sO), ((k = 225 ∧ ∃ x, L = [(225, x)]) ∨ (k = 40 ∧ L = [])) → ∀ (M : mS) (σ : aS) (p : Nat), CR ad M T tl p σ → Post ad T tl M σ (rec1 G (ad 55) n 4 M (zn d) (zn k)) (pGrp (kdT T tl) (fun q => pz (kdT T tl) F 0 (d + 1) q) d p L)) ∧
    (∀ d F, d ≤ 8 → 4 * (8 - d) + 1 ≤ n → 3 * (8 - d) ≤ F → ∀ (M : mS) (σ : aS) (p : Nat), (kdT T tl p = 231 ∨ kdT T tl p = 232) → CR ad M T tl p σ → Post ad T tl M σ (rec1 G (ad 55) n 5 M (zn d) 0) (pTwo (kdT T tl) (fun q => pz (kdT T tl) F 0 (d + 1) q) d (p + 1) [(kdT T tl p, p)])) := by
  intro n
  induction n with
  | zero =>
    refine ⟨fun d F _ q => ?_, fun d F _ q => ?_, fun d F _ q => ?_, fun d F _ q => ?_, fun d F _ q => ?_, fun d F _ q => ?_⟩ <;> omega
  | succ n ih =>
    obtain ⟨i0, i1, i2, i3, i4, i5⟩ := ih
    refine ⟨fun d F hd hn hF M σ p h => ?_, fun d F hd hn hF M σ p h => ?_, fun d F hd hn hF M σ p h => ?_, fun d F hd hn hF M σ p h hp => ?_, fun d F hd hn hF k L hk M σ p h => ?_, fun d F hd hn hF M σ p hk h => ?_⟩
    · obtain ⟨F, rfl⟩ : ∃ g, F = g + 1 := ⟨F - 1, by omega⟩
      rw [rec1, if_pos rfl, pz]
      unfold q_X2_sum
      refine c_clm (i1 d F hd (by omega) (by omega) M σ p h) ?_
      rintro M1 v ⟨f1, t1, n1⟩
      refine r_loop1 hA hS hT (k1 := 43) (k2 := 45) (tag := 1) (R := rec1 G (ad 55) n) (loop := q_X2_sum_8 G (rec1 G (ad 55) n) (ad 55) (zn d)) (by decide) (by decide) (fun k => ?_) (fun k hk => ?_) (i1 d F hd (by omega) (by omega)) (fun p hp => (pz_ge hp).1) (fun n M v2 v3 => rfl) 401 0 fu M M1 σ _ v (by omega) (by unfold fu; omega) (Nat.zero_le _) f1 t1 n1
      · unfold qAdd; rw [Bool.or_eq_true, beq_iff_eq, beq_iff_eq]
      · unfold qAdd at hk
        rw [Bool.or_eq_true, beq_iff_eq, beq_iff_eq] at hk
        rcases hk with rfl | rfl <;> decide
    · obtain ⟨F, rfl⟩ : ∃ g, F = g + 1 := ⟨F - 1, by omega⟩
      rw [rec1, if_neg (by decide), if_pos rfl, pz]
      unfold q_X2_product
      refine c_clm (i2 d F hd (by omega) (by omega) M σ p h) ?_
      rintro M1 v ⟨f1, t1, n1⟩
      refine r_loop1 hA hS hT (k1 := 42) (k2 := 47) (tag := 2) (R := rec1 G (ad 55) n) (loop := q_X2_product_8 G (rec1 G (ad 55) n) (ad 55) (zn d)) (by decide) (by decide) (fun k => ?_) (fun k hk => ?_) (i2 d F hd (by omega) (by omega)) (fun p hp => (pz_ge hp).1) (fun n M v2 v3 => rfl) 401 0 fu M M1 σ _ v (by omega) (by unfold fu; omega) (Nat.zero_le _) f1 t1 n1
      · unfold qMul; rw [Bool.or_eq_true, beq_iff_eq, beq_iff_eq]
      · unfold qMul at hk
        rw [Bool.or_eq_true, beq_iff_eq, beq_iff_eq] at hk
        rcases hk with rfl | rfl <;> decide
    · obtain ⟨F, rfl⟩ : ∃ g, F = g + 1 := ⟨F - 1, by omega⟩
      have hb := kdT_le (T := T) (tl := tl) hT (q := p)
      rw [rec1, if_neg (by decide), if_neg (by decide), if_pos rfl, pz]
      unfold q_X2_factor
      rw [r_kind hS h]
      refine c_cl (c_some ?_)
      have no : ∀ {n : Nat}, n < 1000 → kdT T tl p ≠ n → ¬ zn (kdT T tl p) = OfNat.ofNat n := fun hn h q => h ((zn_lit hb hn).mp q)
      have ye : ∀ {n : Nat}, n < 1000 → kdT T tl p = n → zn (kdT T tl p) = OfNat.ofNat n := fun hn h => (zn_lit hb hn).mpr h
      have leaf : (kdT T tl p = 3 ∨ kdT T tl p = 220 ∨ kdT T tl p = 221) → Post ad T tl M σ (o_rf (gP G (ad 55) 1) (fun q5 => o_cl (m_X2_kind G M (ad 55)) (fun M6 r7 => o_cl (m_X2_value G M6 (ad 55)) (fun M9 r10 => o_cl (m_X3_addOperation G M9 q5 r7 (Int64.toInt32 r10)) (fun M12 r13 => o_cl (m_X2_advance G M12 (ad 55)) (fun M15 r16 => o_ck ((1 : Int32) = 0 ∨ (1 : Int32) = 1) (some (M15, (1 : Int32))))))))) (true, p + 1, [(kdT T tl p, p)]) := fun hk => by
        have hp : p < nT T tl := kdT_lt (by omega)
        refine c_rf (sh_q1 hS) ?_
        rw [r_kind hS h]
        refine c_cl (c_some ?_)
        rw [r_value hS h hp]
        refine c_cl (c_some (c_clm (r_addOp hA hS h) ?_))
        rintro M1 _ ⟨h1, f1⟩
        refine c_clm (r_adv hA hS h1 hp) ?_
        rintro M2 _ ⟨h2, f2⟩
        refine c_ck (Or.inr rfl) (c_some ⟨Fr_tr f1 f2, fun _ => ⟨rfl, ?_⟩, fun q => absurd (show true = false from q) (by decide)⟩)
        show CR ad M2 T tl (p + 1) (sOp T tl (kdT T tl p, p) σ)
        unfold sOp
        rw [if_neg (show ¬ isA (kdT T tl p) = true by rcases hk with e | e | e <;> rw [e] <;> decide), if_pos hk]
        exact h2
      by_cases k1 : kdT T tl p = 3 ∨ kdT T tl p = 220 ∨ kdT T tl p = 221
      · rw [if_pos k1]
        rcases id k1 with e | e | e
        · exact c_t (ye (n := 3) (by decide) e) (leaf k1)
        · exact c_f (no (n := 3) (by decide) (by omega)) (c_f (no (n := 40) (by decide) (by omega)) (c_f (no (n := 45) (by decide) (by omega)) (c_t (ye (n := 220) (by decide) e) (leaf k1))))
        · exact c_f (no (n := 3) (by decide) (by omega)) (c_f (no (n := 40) (by decide) (by omega)) (c_f (no (n := 45) (by decide) (by omega)) (c_f (no (n := 220) (by decide) (by omega)) (c_t (ye (n := 221) (by decide) e) (leaf k1)))))
      rw [if_neg k1]
      refine c_f (no (n := 3) (by decide) (by omega)) ?_
      by_cases k2 : kdT T tl p = 222 ∨ kdT T tl p = 223 ∨ kdT T tl p = 224
      · rw [if_pos k2]
        have lf := Post_ck (r_antOp hA hS hT h (by rcases k2 with e | e | e <;> rw [e] <;> decide) (by omega))
        refine c_f (no (n := 40) (by decide) (by omega)) (c_f (no (n := 45) (by decide) (by omega)) (c_f (no (n := 220) (by decide) (by omega)) (c_f (no (n := 221) (by decide) (by omega)) ?_)))
        rcases k2 with e | e | e
        · exact c_t (ye (n := 222) (by decide) e) lf
        · exact c_f (no (n := 222) (by decide) (by omega)) (c_t (ye (n := 223) (by decide) e) lf)
        · exact c_f (no (n := 222) (by decide) (by omega)) (c_f (no (n := 223) (by decide) (by omega)) (c_t (ye (n := 224) (by decide) e) lf))
      rw [if_neg k2]
      by_cases k3 : kdT T tl p = 225
      · rw [if_pos k3]
        refine c_f (no (n := 40) (by decide) (by omega)) (c_f (no (n := 45) (by decide) (by omega)) (c_f (no (n := 220) (by decide) (by omega)) (c_f (no (n := 221) (by decide) (by omega)) (c_f (no (n := 222) (by decide) (by omega)) (c_f (no (n := 223) (by decide) (by omega)) (c_f (no (n := 224) (by decide) (by omega)) (c_t (ye (n := 225) (by decide) k3) (c_clm (r_adv hA hS h (kdT_lt (by omega))) ?_))))))))
        rintro M1 _ ⟨h1, f1⟩
        exact Post_tr f1 (Post_ck (i4 d F hd (by omega) (by omega) 225 [(225, p)] (Or.inl ⟨rfl, p, rfl⟩) M1 σ (p + 1) h1)) rfl rfl (fun _ => rfl)
      rw [if_neg k3]
      by_cases k4 : kdT T tl p = 45
      · rw [if_pos k4]
        exact c_f (no (n := 40) (by decide) (by omega)) (c_t (ye (n := 45) (by decide) k4) (Post_ck (i3 d F hd (by omega) (by omega) M σ p h (kdT_lt (by omega)))))
      rw [if_neg k4]
      by_cases k5 : kdT T tl p = 40
      · rw [if_pos k5]
        exact c_t (ye (n := 40) (by decide) k5) (Post_ck (i4 d F hd (by omega) (by omega) 40 [] (Or.inr ⟨rfl, rfl⟩) M σ p h))
      rw [if_neg k5]
      refine c_f (no (n := 40) (by decide) (by omega)) (c_f (no (n := 45) (by decide) (by omega)) (c_f (no (n := 220) (by decide) (by omega)) (c_f (no (n := 221) (by decide) (by omega)) (c_f (no (n := 222) (by decide) (by omega)) (c_f (no (n := 223) (by decide) (by omega)) (c_f (no (n := 224) (by decide) (by omega)) (c_f (no (n := 225) (by decide) (by omega)) ?_)))))))
      by_cases k6 : kdT T tl p = 231 ∨ kdT T tl p = 232
      · rw [if_pos k6]
        have lf := Post_ck (i5 d F hd (by omega) (by omega) M σ p k6 h)
        rcases k6 with e | e
        · exact c_t (ye (n := 231) (by decide) e) lf
        · exact c_f (no (n := 231) (by decide) (by omega)) (c_t (ye (n := 232) (by decide) e) lf)
      · rw [if_neg k6]
        exact c_f (no (n := 231) (by decide) (by omega)) (c_f (no (n := 232) (by decide) (by omega)) (Post_no h Fr_rf))
    · rw [rec1, if_neg (by decide), if_neg (by decide), if_neg (by decide), if_pos rfl]
      unfold q_X2_negatedFactor
      rw [zn_one]
      exact r_neg hA hS (k := 4) hd (by decide) (X := fun M => rec1 G (ad 55) n 2 M (zn (d + 1)) 0) hp (fun hd8 => i2 (d + 1) F (by omega) (by omega) (by omega)) h
    · rw [rec1, if_neg (by decide), if_neg (by decide), if_neg (by decide), if_neg (by decide), if_pos rfl]
      exact r_grp hA hS hT hd (fun hd8 => i0 (d + 1) F (by omega) (by omega) (by omega)) hk h
    · rw [rec1, if_neg (by decide), if_neg (by decide), if_neg (by decide), if_neg (by decide), if_neg (by decide), if_pos rfl]
      exact r_cho hA hS hT hd (fun hd8 => i0 (d + 1) F (by omega) (by omega) (by omega)) hk h
theorem r_sum (hA : Inj ad) (hS : Sh G ad) (hT : ∀ k, k < tl → T k < 256) {d F : Nat} (hd : d ≤ 8) (hF : 3 * (8 - d) + 3 ≤ F) {M : mS} {σ : aS} {p : Nat} (h : CR ad M T tl p σ) : Post ad T tl M σ (m_X2_sum G M (ad 55) (zn d)) (pz (kdT T tl) F 0 d p) := (r_rec1 hA hS hT 64).1 d F hd (by omega) hF M σ p h
end Rec
