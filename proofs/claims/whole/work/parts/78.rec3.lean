/-! the reference's parser: the nest of sums -/
section Rec3
variable {G : gS} {ad : Nat → Nat} {T : Nat → Nat} {tl : Nat}
theorem w_isC {α : Type} (hS : Sh G ad) {M : mS} {p d : Nat} {C : List Int32} {O : List Nat} {ro : Nat → Nat} (h : MR ad M T tl p d C O ro) {t : Nat} (ht : vK t) {c : Int32} (hc : c = zn (kr t)) {K : mS → Int32 → Option (mS × α)} {Q : mS → α → Prop} (H1 : kdT T tl p = t → p_cl (K M 1) Q) (H2 : kdT T tl p ≠ t → p_cl (K M 0) Q) : p_cl (o_cl (m_X12_is G M (ad 70) c) K) Q := by
  rw [hc, w_is hS h ht]
  refine c_cl (c_some ?_)
  by_cases k : kdT T tl p = t
  · rw [if_pos k]; exact H1 k
  · rw [if_neg k]; exact H2 k
theorem w_sgC {α : Type} (hS : Sh G ad) {M : mS} {p d : Nat} {C : List Int32} {O : List Nat} {ro : Nat → Nat} (h : MR ad M T tl p d C O ro) {t : Nat} (ht : vK t) {c : Int32} (hc : (50 : Int32) + c = zn (kr t)) {K : mS → Int32 → Option (mS × α)} {Q : mS → α → Prop} (H1 : kdT T tl p = t → p_cl (K M 1) Q) (H2 : kdT T tl p ≠ t → p_cl (K M 0) Q) : p_cl (o_cl (m_X12_isSign G M (ad 70) c) K) Q := by
  rw [w_sign hS h ht hc]
  refine c_cl (c_some ?_)
  by_cases k : kdT T tl p = t
  · rw [if_pos k]; exact H1 k
  · rw [if_neg k]; exact H2 k
theorem w_etC {α : Type} (hA : Inj ad) (hS : Sh G ad) {M : mS} {p d : Nat} {C : List Int32} {O : List Nat} {ro : Nat → Nat} (h : MR ad M T tl p d C O ro) {t : Nat} (ht : vK t) (h2 : 2 ≤ t) {c : Int32} (hc : c = zn (kr t)) {K : mS → Int32 → Option (mS × α)} {Q : mS → α → Prop} (H1 : kdT T tl p = t → ∀ M', MR ad M' T tl (p + 1) d C O ro → NFr ad M M' → p_cl (K M' 1) Q) (H2 : kdT T tl p ≠ t → ∀ M', MR ad M' T tl p d C O ro → NFr ad M M' → p_cl (K M' 0) Q) : p_cl (o_cl (m_X12_eat G M (ad 70) c) K) Q := by
  rw [hc]
  refine c_clm (w_eat hA hS h ht h2) ?_
  rintro M1 r ⟨a, b, f⟩
  by_cases k : kdT T tl p = t
  · obtain ⟨rfl, h1⟩ := a k
    exact H1 k M1 h1 f
  · obtain ⟨rfl, h1⟩ := b k
    exact H2 k M1 h1 f
theorem w_esC {α : Type} (hA : Inj ad) (hS : Sh G ad) {M : mS} {p d : Nat} {C : List Int32} {O : List Nat} {ro : Nat → Nat} (h : MR ad M T tl p d C O ro) {t : Nat} (ht : vK t) (h2 : 2 ≤ t) {c : Int32} (hc : (50 : Int32) + c = zn (kr t)) {K : mS → Int32 → Option (mS × α)} {Q : mS → α → Prop} (H1 : kdT T tl p = t → ∀ M', MR ad M' T tl (p + 1) d C O ro → NFr ad M M' → p_cl (K M' 1) Q) (H2 : kdT T tl p ≠ t → ∀ M', MR ad M' T tl p d C O ro → NFr ad M M' → p_cl (K M' 0) Q) : p_cl (o_cl (m_X12_eatSign G M (ad 70) c) K) Q := by
  refine c_clm (w_eatS hA hS h ht h2 hc) ?_
  rintro M1 r ⟨a, b, f⟩
  by_cases k : kdT T tl p = t
  · obtain ⟨rfl, h1⟩ := a k
    exact H1 k M1 h1 f
  · obtain ⟨rfl, h1⟩ := b k
    exact H2 k M1 h1 f
theorem vK_s {t : Nat} (h : sB_ t = true) : vK t := Or.inr (Or.inr (Or.inr (Or.inr (Or.inr (Or.inr (Or.inr h))))))
theorem vK_w {t : Nat} (h : 200 ≤ t ∧ t < 233) : vK t := Or.inr (Or.inr (Or.inr (Or.inr (Or.inr (Or.inr (Or.inl h))))))
/-- ( sum ) -/
theorem w_grp (hA : Inj ad) (hS : Sh G ad) {d F : Nat} (hd : d ≤ 8) {R : Nat → mS → Int32 → Int32 → Option (mS × Int32)} (ih : d < 8 → wG G ad T tl (fun M => R 0 M 0 0) (d + 1) (pz (kdT T tl) F 0 (d + 1))) {x : Int32} : wG G ad T tl (fun M => q_X12_isInside G R M (ad 70) x 0) d (fun p => pGrp (kdT T tl) (fun q => pz (kdT T tl) F 0 (d + 1) q) d p []) := by
  intro M C O ro p h hC hO
  show PostM ad T tl d C O ro M (q_X12_isInside G R M (ad 70) x 0) (pGrp (kdT T tl) (fun q => pz (kdT T tl) F 0 (d + 1) q) d p [])
  unfold q_X12_isInside pGrp q_X12_isInside_43 q_X12_isInside_45 q_X12_isInside_64
  refine w_sgC hS h (t := 40) (vK_s rfl) (by decide) (fun k => ?_) (fun k => ?_)
  · refine c_f (by decide) (c_clm (w_deep hA h hd (kdT_lt (by omega))) ?_)
    rintro M1 r ⟨t1, n1, f1⟩
    by_cases g : d < 8
    · obtain ⟨rfl, h1⟩ := t1 g
      rw [if_neg (show ¬ 8 ≤ d by omega), if_pos k]
      refine c_f (by decide) (c_clm (ih g M1 C O ro (p + 1) h1 (by omega) (by omega)) ?_)
      rintro M2 v ⟨f2, t2, n2⟩
      cases e : (pz (kdT T tl) F 0 (d + 1) (p + 1)).1
      · rw [if_neg (show ¬ false = true by decide)]
        obtain ⟨rfl, d', C', O', ro', h2⟩ := n2 e
        exact c_t rfl (PM_no h2 (NFr_tr f1 f2))
      · rw [if_pos (show true = true from rfl)]
        obtain ⟨rfl, h2⟩ := t2 e
        obtain ⟨h3, f3⟩ := MR_up hA h2
        refine c_f (by decide) (c_t rfl (c_wI (c_t rfl (w_esC hA hS h3 (t := 41) (vK_s rfl) (by decide) (by decide) (fun k2 M4 h4 f4 => ?_) (fun k2 M4 h4 f4 => ?_)))))
        · rw [if_pos k2]
          refine c_ck (Or.inr rfl) (c_some ⟨NFr_tr f1 (NFr_tr f2 (NFr_tr f3 f4)), fun _ => ⟨rfl, ?_⟩, fun q => absurd (show true = false from q) (by decide)⟩)
          dsimp only
          rw [List.append_nil]
          exact h4
        · rw [if_neg k2]
          exact PM_no h4 (NFr_tr f1 (NFr_tr f2 (NFr_tr f3 f4)))
    · obtain ⟨rfl, h1⟩ := n1 g
      rw [if_pos (show 8 ≤ d by omega)]
      exact c_t rfl (PM_no h1 f1)
  · rw [if_neg k]
    have : (if 8 ≤ d then ((false, p, []) : rS) else (false, p, [])) = (false, p, []) := by split <;> rfl
    rw [this]
    exact c_t rfl (PM_no h NFr_rf)
/-- ( sum , sum ) -/
theorem w_two (hA : Inj ad) (hS : Sh G ad) (hq : gP G (ad 70) 12 = some (ad 126)) (hL : LSh G ad 126) {d F : Nat} (hd : d ≤ 8) {R : Nat → mS → Int32 → Int32 → Option (mS × Int32)} (ih : d < 8 → wG G ad T tl (fun M => R 0 M 0 0) (d + 1) (pz (kdT T tl) F 0 (d + 1))) {k t : Nat} (hk : (opc k = 2 ∨ 5 ≤ opc k) ∧ isA k = false) : wG G ad T tl (fun M => q_X12_isInside G R M (ad 70) (zn (mc k)) 1) d (fun p => pTwo (kdT T tl) (fun q => pz (kdT T tl) F 0 (d + 1) q) d p [(k, t)]) := by
  intro M C O ro p h hC hO
  have hn := nT_le (T := T) (tl := tl)
  show PostM ad T tl d C O ro M (q_X12_isInside G R M (ad 70) (zn (mc k)) 1) (pTwo (kdT T tl) (fun q => pz (kdT T tl) F 0 (d + 1) q) d p [(k, t)])
  unfold q_X12_isInside pTwo q_X12_isInside_43 q_X12_isInside_45 q_X12_isInside_64
  refine w_sgC hS h (t := 40) (vK_s rfl) (by decide) (fun k => ?_) (fun k => ?_)
  · refine c_f (by decide) (c_clm (w_deep hA h hd (kdT_lt (by omega))) ?_)
    rintro M1 r ⟨t1, n1, f1⟩
    have hp := kdT_lt (T := T) (tl := tl) (q := p) (by omega)
    by_cases g : d < 8
    · obtain ⟨rfl, h1⟩ := t1 g
      rw [if_neg (show ¬ 8 ≤ d by omega), if_pos k]
      refine c_f (by decide) (c_clm (ih g M1 C O ro (p + 1) h1 (by omega) (by omega)) ?_)
      rintro M2 v ⟨f2, t2, n2⟩
      have r1 := pz_rok (T := T) (tl := tl) (f := F) (t := 0) (d := d + 1) (p := p + 1) (by omega)
      cases e : (pz (kdT T tl) F 0 (d + 1) (p + 1)).1
      · rw [if_neg (show ¬ false = true by decide)]
        obtain ⟨rfl, d', C', O', ro', h2⟩ := n2 e
        exact c_t rfl (PM_no h2 (NFr_tr f1 f2))
      · rw [if_pos (show true = true from rfl)]
        obtain ⟨rfl, h2⟩ := t2 e
        obtain ⟨l1, l2⟩ := ln_ok (b := C.length) r1 e (show C.length ≤ 2 * (p + 1) by omega) (show O.length ≤ p + 1 by omega)
        refine c_f (by decide) (c_f (by decide) (w_esC hA hS h2 (t := 44) (vK_s rfl) (by decide) (by decide) (fun k2 M4 h4 f4 => ?_) (fun k2 M4 h4 f4 => ?_)))
        · rw [if_pos k2]
          have hp2 := kdT_lt (T := T) (tl := tl) (q := (pz (kdT T tl) F 0 (d + 1) (p + 1)).2.1) (by omega)
          refine c_f (by decide) (c_clm (ih g M4 _ _ _ _ h4 (by omega) (by omega)) ?_)
          rintro M5 v ⟨f5, t5, n5⟩
          have r2 := pz_rok (T := T) (tl := tl) (f := F) (t := 0) (d := d + 1) (p := (pz (kdT T tl) F 0 (d + 1) (p + 1)).2.1 + 1) (by omega)
          have F5 := NFr_tr f1 (NFr_tr f2 (NFr_tr f4 f5))
          cases e2 : (pz (kdT T tl) F 0 (d + 1) ((pz (kdT T tl) F 0 (d + 1) (p + 1)).2.1 + 1)).1
          · rw [if_neg (show ¬ false = true by decide)]
            obtain ⟨rfl, d', C', O', ro', h5⟩ := n5 e2
            exact c_t rfl (PM_no h5 F5)
          · rw [if_pos (show true = true from rfl)]
            obtain ⟨rfl, h5⟩ := t5 e2
            obtain ⟨h6, f6⟩ := MR_up hA h5
            have hl5 : (C ++ enT T tl (pz (kdT T tl) F 0 (d + 1) (p + 1)).2.2 ++ enT T tl (pz (kdT T tl) F 0 (d + 1) ((pz (kdT T tl) F 0 (d + 1) (p + 1)).2.1 + 1)).2.2).length < 800 := by
              have a1 := enT_len (T := T) (tl := tl) (pz (kdT T tl) F 0 (d + 1) ((pz (kdT T tl) F 0 (d + 1) (p + 1)).2.1 + 1)).2.2
              have a2 := r2.2.1
              have a3 := r2.2.2 e2
              rw [List.length_append]
              omega
            refine c_f (by decide) (c_wI (c_f (by decide) (c_clm (w_put hA hq hL h6 hl5) ?_)))
            rintro M7 _ ⟨h7, f7⟩
            have h8 := MR_two (L := (pz (kdT T tl) F 0 (d + 1) (p + 1)).2.2) (K := (pz (kdT T tl) F 0 (d + 1) ((pz (kdT T tl) F 0 (d + 1) (p + 1)).2.1 + 1)).2.2 ++ [(_, t)]) (MR_op (t := t) hk h7)
            refine w_esC hA hS h8 (t := 41) (vK_s rfl) (by decide) (by decide) (fun k3 M9 h9 f9 => ?_) (fun k3 M9 h9 f9 => ?_)
            · rw [if_pos k3]
              exact c_ck (Or.inr rfl) (c_some ⟨NFr_tr F5 (NFr_tr f6 (NFr_tr f7 f9)), fun _ => ⟨rfl, h9⟩, fun q => absurd (show true = false from q) (by decide)⟩)
            · rw [if_neg k3]
              exact PM_no h9 (NFr_tr F5 (NFr_tr f6 (NFr_tr f7 f9)))
        · rw [if_neg k2]
          exact c_t rfl (PM_no h4 (NFr_tr f1 (NFr_tr f2 f4)))
    · obtain ⟨rfl, h1⟩ := n1 g
      rw [if_pos (show 8 ≤ d by omega)]
      exact c_t rfl (PM_no h1 f1)
  · rw [if_neg k]
    have : (if 8 ≤ d then ((false, p, []) : rS) else (false, p, [])) = (false, p, []) := by split <;> rfl
    rw [this]
    exact c_t rfl (PM_no h NFr_rf)
/-- a - or a not -/
theorem w_neg (hA : Inj ad) (hS : Sh G ad) (hq : gP G (ad 70) 12 = some (ad 126)) (hL : LSh G ad 126) {d k : Nat} {c : Int32} (hc : c = zn (mc k)) (hd : d ≤ 8) {X : mS → Option (mS × Int32)} {Rz : Nat → rS} (ih : d < 8 → wG G ad T tl X (d + 1) Rz) (hR : ∀ p, p ≤ nT T tl → rOk (nT T tl) p (Rz p)) (hk : (opc k = 2 ∨ 5 ≤ opc k) ∧ isA k = false) {M : mS} {C : List Int32} {O : List Nat} {ro : Nat → Nat} {p : Nat} (h : MR ad M T tl p d C O ro) (hp : p < nT T tl) (hC : C.length ≤ 2 * p) (hO : O.length ≤ p) {Z : mS → Option (mS × Int32)} (hZ : ∀ M, Z M = o_ck ((0 : Int32) = 0 ∨ (0 : Int32) = 1) (some (M, (0 : Int32)))) : PostM ad T tl d C O ro M (o_cl (m_X12_isDeeper G M (ad 70)) (fun M36 r37 => (if r37 = 0 then Z M36 else o_cl (X M36) (fun M40 r41 => (if r41 = 0 then Z M40 else o_wI M40 (ad 70) 10 ((mI M40 (ad 70) 10) - (1 : Int32)) (fun M44 => o_cl (m_X12_put G M44 (ad 70) c) (fun M45 r46 => o_ck ((1 : Int32) = 0 ∨ (1 : Int32) = 1) (some (M45, (1 : Int32)))))))))) (pNeg Rz d p k) := by
  have hn := nT_le (T := T) (tl := tl)
  unfold pNeg
  refine c_clm (w_deep hA h hd hp) ?_
  rintro M1 r ⟨t1, n1, f1⟩
  by_cases g : d < 8
  · obtain ⟨rfl, h1⟩ := t1 g
    rw [if_pos g]
    refine c_f (by decide) (c_clm (ih g M1 C O ro (p + 1) h1 (by omega) (by omega)) ?_)
    rintro M2 v ⟨f2, t2, n2⟩
    have r1 := hR (p + 1) hp
    cases e : (Rz (p + 1)).1
    · obtain ⟨rfl, d', C', O', ro', h2⟩ := n2 e
      refine c_t rfl ?_
      rw [hZ]
      exact c_ck (Or.inl rfl) (c_some ⟨NFr_tr f1 f2, fun g => absurd (show false = true from g) (by decide), fun _ => ⟨rfl, _, _, _, _, h2⟩⟩)
    · obtain ⟨rfl, h2⟩ := t2 e
      obtain ⟨h3, f3⟩ := MR_up hA h2
      have hl : (C ++ enT T tl (Rz (p + 1)).2.2).length < 800 := by
        have a1 := enT_len (T := T) (tl := tl) (Rz (p + 1)).2.2
        have a2 := r1.2.1
        have a3 := r1.2.2 e
        rw [List.length_append]
        omega
      refine c_f (by decide) (c_wI (c_clm (w_put hA hq hL h3 hl) ?_))
      rintro M4 _ ⟨h4, f4⟩
      rw [hc] at h4
      exact c_ck (Or.inr rfl) (c_some ⟨NFr_tr f1 (NFr_tr f2 (NFr_tr f3 f4)), fun _ => ⟨rfl, MR_op hk h4⟩, fun q => absurd (show true = false from q) (by decide)⟩)
  · obtain ⟨rfl, h1⟩ := n1 g
    rw [if_neg g]
    refine c_t rfl ?_
    rw [hZ]
    exact PM_no h1 f1
end Rec3
