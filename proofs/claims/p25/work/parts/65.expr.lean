/-! the class's parser: sums and tests -/
theorem sC_5 (e pl : Nat) (σ : aS) : sgP (sC e pl σ) = sgP σ ∧ sgY (sC e pl σ) = sgY σ ∧ sgN (sC e pl σ) = sgN σ ∧ sgA (sC e pl σ) = sgA σ := by
  unfold sC
  split
  · exact ⟨rfl, rfl, rfl, rfl⟩
  · exact ⟨rfl, rfl, rfl, rfl⟩
theorem sLk_5 (o : Option Nat) (pl : Nat) (σ : aS) : sgP (sLk o pl σ) = sgP σ ∧ sgY (sLk o pl σ) = sgY σ ∧ sgN (sLk o pl σ) = sgN σ ∧ sgA (sLk o pl σ) = sgA σ := by
  unfold sLk
  split
  · exact sC_5 3 pl σ
  · exact ⟨rfl, rfl, rfl, rfl⟩
/-- the number of an ant by the name at a token -/
def antO (T : Nat → Nat) (tl t : Nat) (σ : aS) : Option Nat := ixN (sgA σ) (keyT T tl t) (yd_n (sgY σ)) 0
def rulO (T : Nat → Nat) (tl t : Nat) (σ : aS) : Option Nat := ixN (sgN σ) (keyT T tl t) (pg_r (sgP σ)) 0
/-- an operation of a test is put in -/
def sOp (T : Nat → Nat) (tl : Nat) (o : sO) (σ : aS) : aS :=
  if isA o.1 then sSetP (pOp (o.1, zn (ixD (antO T tl o.2 σ))) (sgP σ)) (sLk (antO T tl o.2 σ) (tkP T tl o.2) σ)
  else sSetP (pOp (o.1, if o.1 = 3 ∨ o.1 = 220 ∨ o.1 = 221 then Int64.toInt32 (vlT T tl o.2) else 0) (sgP σ)) σ
def sOps (T : Nat → Nat) (tl : Nat) (L : List sO) (σ : aS) : aS := L.foldl (fun s o => sOp T tl o s) σ
theorem sOps_app {T : Nat → Nat} {tl : Nat} {L K : List sO} {σ : aS} : sOps T tl (L ++ K) σ = sOps T tl K (sOps T tl L σ) := List.foldl_append
theorem sOps_1 {T : Nat → Nat} {tl : Nat} {o : sO} {σ : aS} : sOps T tl [o] σ = sOp T tl o σ := rfl
theorem pOp_r {o : aO} {P : aP} : pg_r (pOp o P) = pg_r P ∧ pg_z (pOp o P) = pg_z P ∧ pg_t (pOp o P) = pg_t P ∧ pg_o (pOp o P) = pg_o P := by
  unfold pOp
  split
  · exact ⟨rfl, rfl, rfl, rfl⟩
  · exact ⟨rfl, rfl, rfl, rfl⟩
theorem pOp_off {o : aO} {P : aP} (h : off (pg_T P) (pg_o P) ≤ 400) : off (pg_T (pOp o P)) (pg_o (pOp o P)) ≤ 400 := by
  unfold pOp
  split
  · exact h
  · next g =>
    show off (fun j => if j = pg_o P - 1 then pg_T P j ++ [o] else pg_T P j) (pg_o P) ≤ 400
    obtain ⟨n, hn⟩ : ∃ n, pg_o P = n + 1 := ⟨pg_o P - 1, by omega⟩
    have e : off (fun j => if j = pg_o P - 1 then pg_T P j ++ [o] else pg_T P j) n = off (pg_T P) n := off_congr _ (fun j hj => if_neg (by omega))
    have h2 : off (pg_T P) (pg_o P) = off (pg_T P) n + (pg_T P n).length := by rw [hn]; rfl
    have h3 : off (fun j => if j = pg_o P - 1 then pg_T P j ++ [o] else pg_T P j) (n + 1) = off (pg_T P) n + ((pg_T P n).length + 1) := by
      rw [off, e, if_pos (by omega), List.length_append]
      rfl
    rw [hn] at g h2 ⊢
    rw [hn] at h3
    omega
theorem SV_op {σ : aS} {o : aO} (h : SV σ) : SV (sSetP (pOp o (sgP σ)) σ) := by
  obtain ⟨⟨h1, h2, h3, h4, h5⟩, h6⟩ := h
  obtain ⟨e1, e2, e3, e4⟩ := pOp_r (o := o) (P := sgP σ)
  refine ⟨⟨?_, ?_, ?_, ?_, pOp_off h5⟩, h6⟩
  · show pg_r (pOp o (sgP σ)) ≤ 5; rw [e1]; exact h1
  · show ∀ r, r < pg_r (pOp o (sgP σ)) → pg_z (pOp o (sgP σ)) r ≤ 6
    rw [e1, e2]; exact h2
  · show ∀ r k, pg_t (pOp o (sgP σ)) r k < 4
    rw [e3]; exact h3
  · show pg_o (pOp o (sgP σ)) ≤ 20; rw [e4]; exact h4
section Expr
variable {G : gS} {ad : Nat → Nat} {T : Nat → Nat} {tl : Nat}
theorem r_addOp (hA : Inj ad) (hS : Sh G ad) {M : mS} {p : Nat} {σ : aS} (h : CR ad M T tl p σ) {k : Nat} {v : Int32} : p_cl (m_X3_addOperation G M (ad 12) (zn k) v) (fun M' _ => CR ad M' T tl p (sSetP (pOp (k, v) (sgP σ)) σ) ∧ Fr (PF ad) M M') := by
  refine c_mono (c_addOp hA (sh_P12 hS) h.1.2.1 h.2.2.1.2.2.2.1 h.2.2.1.2.2.2.2) ?_
  rintro M' _ ⟨a, b⟩
  exact ⟨CR_P hA h b a pOp_r.1 (SV_op h.2.2), PF_P b⟩
/-- an operation with no operand -/
theorem r_op0 (hA : Inj ad) (hS : Sh G ad) {M : mS} {p : Nat} {σ : aS} (h : CR ad M T tl p σ) {k : Nat} (t : Nat) (hk : isA k = false ∧ ¬ (k = 3 ∨ k = 220 ∨ k = 221)) : p_cl (m_X3_addOperation G M (ad 12) (zn k) 0) (fun M' _ => CR ad M' T tl p (sOp T tl (k, t) σ) ∧ Fr (PF ad) M M') := by
  refine c_mono (r_addOp hA hS h) ?_
  rintro M' _ ⟨a, b⟩
  unfold sOp
  rw [if_neg (by show ¬ isA k = true; rw [hk.1]; decide), if_neg hk.2]
  exact ⟨a, b⟩
/-- what the reading of a piece comes to -/
def Post (ad : Nat → Nat) (T : Nat → Nat) (tl : Nat) (M : mS) (σ : aS) (x : Option (mS × Int32)) (r : rS) : Prop := p_cl x (fun M' v => Fr (PF ad) M M' ∧ (r.1 = true → v = 1 ∧ CR ad M' T tl r.2.1 (sOps T tl r.2.2 σ)) ∧ (r.1 = false → v = 0 ∧ ∃ σ', CR ad M' T tl r.2.1 σ'))
theorem Post_no {M M' : mS} {σ σ' : aS} {q : Nat} (h : CR ad M' T tl q σ') (hF : Fr (PF ad) M M') : Post ad T tl M σ (o_ck ((0 : Int32) = 0 ∨ (0 : Int32) = 1) (some (M', (0 : Int32)))) (false, q, []) := c_ck (Or.inl rfl) (c_some ⟨hF, fun g => absurd (show false = true from g) (by decide), fun _ => ⟨rfl, σ', h⟩⟩)
theorem Post_tr {M M1 : mS} {σ σ1 : aS} {x : Option (mS × Int32)} {r r' : rS} (hF : Fr (PF ad) M M1) (h : Post ad T tl M1 σ1 x r') (h1 : r'.1 = r.1) (h2 : r'.2.1 = r.2.1) (h3 : r'.1 = true → sOps T tl r.2.2 σ = sOps T tl r'.2.2 σ1) : Post ad T tl M σ x r := by
  refine c_mono h ?_
  rintro M' v ⟨a, b, c⟩
  rw [h1, h2] at b
  rw [h1, h2] at c
  rw [h1] at h3
  exact ⟨Fr_tr hF a, fun g => ⟨(b g).1, by rw [h3 g]; exact (b g).2⟩, c⟩
/-- its answer is looked at and given on -/
theorem Post_ck {M : mS} {σ : aS} {x : Option (mS × Int32)} {r : rS} (h : Post ad T tl M σ x r) : Post ad T tl M σ (o_cl x (fun M1 r1 => o_ck (r1 = 0 ∨ r1 = 1) (some (M1, r1)))) r := by
  refine c_clm h ?_
  rintro M1 v ⟨a, b, c⟩
  refine c_ck ?_ (c_some ⟨a, b, c⟩)
  cases e : r.1
  · exact Or.inl (c e).1
  · exact Or.inr (b e).1
theorem r_antOp (hA : Inj ad) (hS : Sh G ad) (hT : ∀ k, k < tl → T k < 256) {M : mS} {p : Nat} {σ : aS} (h : CR ad M T tl p σ) (hk : isA (kdT T tl p) = true) (hk2 : 2 ≤ kdT T tl p) : Post ad T tl M σ (m_X2_antOperation G M (ad 55)) (pAnt (kdT T tl) p) := by
  unfold m_X2_antOperation pAnt
  rw [r_kind hS h]
  refine c_cl (c_some (c_clm (r_adv hA hS h (kdT_lt hk2)) ?_))
  rintro M1 _ ⟨a1, b1⟩
  rw [r_kind hS a1]
  have hb := kdT_le (T := T) (tl := tl) hT (q := p + 1)
  refine c_cl (c_some (c_if (fun g => ?_) (fun g => ?_)))
  · rw [show (2 : Int32) = zn 2 from rfl, zn_inj (by omega) (by omega)] at g
    rw [if_pos g]
    refine c_rf (sh_q1 hS) (c_rf (sh_q4 hS) (c_rf (sh_q2 hS) ?_))
    have hn := a1.2.2.2.1.2.1
    refine c_clm (r_known hA hS a1 g hT (r_ixA hS a1 (name_ok hT g).2) (fun i hi => by have := ixN_lt _ _ _ hi; omega)) ?_
    rintro M2 r ⟨rfl, a2, b2⟩
    refine c_clm (r_addOp hA hS a2) ?_
    rintro M3 _ ⟨a3, b3⟩
    refine c_ck (Or.inr rfl) (c_some ⟨Fr_tr b1 (Fr_tr b2 b3), fun _ => ⟨rfl, ?_⟩, fun q => absurd (show true = false from q) (by decide)⟩)
    show CR ad M3 T tl (p + 1 + 1) (sOp T tl (kdT T tl p, p + 1) σ)
    unfold sOp
    rw [if_pos hk]
    have e := (sLk_5 (antO T tl (p + 1) σ) (tkP T tl (p + 1)) σ).1
    show CR ad M3 T tl (p + 1 + 1) (sSetP (pOp (kdT T tl p, zn (ixD (antO T tl (p + 1) σ))) (sgP σ)) (sLk (antO T tl (p + 1) σ) (tkP T tl (p + 1)) σ))
    unfold antO at e ⊢
    rw [e] at a3
    exact a3
  · rw [show (2 : Int32) = zn 2 from rfl, zn_inj (by omega) (by omega)] at g
    rw [if_neg g]
    exact Post_no a1 b1
/-- a loop over what is put between pieces -/
theorem r_loop1 (hA : Inj ad) (hS : Sh G ad) (hT : ∀ k, k < tl → T k < 256) {R : Nat → mS → Int32 → Int32 → Option (mS × Int32)} {c1 : Int32} {Rz : Nat → rS} {k1 k2 tag : Nat} {q : Nat → Bool} {loop : Nat → mS → Int32 → Int32 → Option (mS × Int32)} (h1 : 2 ≤ k1 ∧ k1 < 1000) (h2 : 2 ≤ k2 ∧ k2 < 1000) (hq : ∀ k, q k = true ↔ k = k1 ∨ k = k2) (hk : ∀ k, q k = true → isA k = false ∧ ¬ (k = 3 ∨ k = 220 ∨ k = 221))
    (hR : ∀ (M : mS) (σ : aS) (p : Nat), CR ad M T tl p σ → Post ad T tl M σ (R tag M c1 0) (Rz p)) (hRp : ∀ p, p ≤ nT T tl → p ≤ (Rz p).2.1)
    (hl : ∀ n M v2 v3, loop (n + 1) M v2 v3 = (if (400 : Int32) ≤ v3 then o_ck (v2 = 0 ∨ v2 = 1) (some (M, v2)) else (if v2 = 0 then o_ck (v2 = 0 ∨ v2 = 1) (some (M, v2)) else o_cl (m_X2_kind G M (ad 55)) (fun M3 r4 => (if r4 = zn k1 then o_cl (m_X2_kind G M3 (ad 55)) (fun M1 r2 => o_cl (m_X2_advance G M1 (ad 55)) (fun M4 r5 => o_cl (R tag M4 c1 (0 : Int32)) (fun M7 r8 => o_rf (gP G (ad 55) 1) (fun q10 => o_cl (m_X3_addOperation G M7 q10 r2 (0 : Int32)) (fun M11 r12 => o_bd (v3 + 1 : Int32) (fun x14 => loop n M11 r8 x14)))))) else o_cl (m_X2_kind G M3 (ad 55)) (fun M7 r8 => (if r8 = zn k2 then o_cl (m_X2_kind G M7 (ad 55)) (fun M1 r2 => o_cl (m_X2_advance G M1 (ad 55)) (fun M4 r5 => o_cl (R tag M4 c1 (0 : Int32)) (fun M7 r8 => o_rf (gP G (ad 55) 1) (fun q10 => o_cl (m_X3_addOperation G M7 q10 r2 (0 : Int32)) (fun M11 r12 => o_bd (v3 + 1 : Int32) (fun x14 => loop n M11 r8 x14)))))) else o_ck (v2 = 0 ∨ v2 = 1) (some (M7, v2))))))))) :
    ∀ (d i f : Nat) (M0 M : mS) (σ0 : aS) (r : rS) (v2 : Int32), i + d = 401 → d < f → i ≤ r.2.1 → Fr (PF ad) M0 M → (r.1 = true → v2 = 1 ∧ CR ad M T tl r.2.1 (sOps T tl r.2.2 σ0)) → (r.1 = false → v2 = 0 ∧ ∃ σ', CR ad M T tl r.2.1 σ') → Post ad T tl M0 σ0 (loop f M v2 (zn i)) (pLoop (kdT T tl) Rz q d r) := by
  intro d
  induction d with
  | zero =>
    intro i f M0 M σ0 r v2 hi hf hp hF ht hff
    obtain ⟨f, rfl⟩ : ∃ g, f = g + 1 := ⟨f - 1, by omega⟩
    rw [hl, if_pos (by rw [show (400 : Int32) = zn 400 from rfl, zn_le (by omega) (by omega)]; omega), pLoop]
    refine c_ck ?_ (c_some ⟨hF, ht, hff⟩)
    cases e : r.1
    · exact Or.inl (hff e).1
    · exact Or.inr (ht e).1
  | succ d ih =>
    intro i f M0 M σ0 r v2 hi hf hp hF ht hff
    obtain ⟨f, rfl⟩ : ∃ g, f = g + 1 := ⟨f - 1, by omega⟩
    have ho : v2 = 0 ∨ v2 = 1 := by
      cases e : r.1
      · exact Or.inl (hff e).1
      · exact Or.inr (ht e).1
    have hn := nT_le (T := T) (tl := tl)
    have stop : ¬ (r.1 && q (kdT T tl r.2.1)) = true → Post ad T tl M0 σ0 (o_ck (v2 = 0 ∨ v2 = 1) (some (M, v2))) (pLoop (kdT T tl) Rz q (d + 1) r) := fun g => by
      rw [pLoop, if_neg g]
      exact c_ck ho (c_some ⟨hF, ht, hff⟩)
    rw [hl]
    refine c_if (fun g => ?_) (fun g => ?_)
    · rw [show (400 : Int32) = zn 400 from rfl, zn_le (by omega) (by omega)] at g
      refine stop (fun q1 => ?_)
      rw [Bool.and_eq_true] at q1
      have := kdT_lt (T := T) (tl := tl) (q := r.2.1) (by rcases (hq _).mp q1.2 with e | e <;> omega)
      omega
    refine c_if (fun g2 => ?_) (fun g2 => ?_)
    · refine stop (fun q1 => ?_)
      rw [Bool.and_eq_true] at q1
      rw [(ht q1.1).1] at g2
      exact absurd g2 (by decide)
    have e1 : r.1 = true := by
      cases e : r.1
      · exact absurd (hff e).1 g2
      · rfl
    have hc := (ht e1).2
    have hb := kdT_le (T := T) (tl := tl) hT (q := r.2.1)
    have go : q (kdT T tl r.2.1) = true → Post ad T tl M0 σ0 (o_cl (m_X2_kind G M (ad 55)) (fun M1 r2 => o_cl (m_X2_advance G M1 (ad 55)) (fun M4 r5 => o_cl (R tag M4 c1 (0 : Int32)) (fun M7 r8 => o_rf (gP G (ad 55) 1) (fun q10 => o_cl (m_X3_addOperation G M7 q10 r2 (0 : Int32)) (fun M11 r12 => o_bd (zn i + 1 : Int32) (fun x14 => loop f M11 r8 x14))))))) (pLoop (kdT T tl) Rz q (d + 1) r) := fun gq => by
      rw [r_kind hS hc]
      have hlt := kdT_lt (T := T) (tl := tl) (q := r.2.1) (by rcases (hq _).mp gq with e | e <;> omega)
      refine c_cl (c_some (c_clm (r_adv hA hS hc hlt) ?_))
      rintro M1 _ ⟨a1, b1⟩
      refine c_clm (hR M1 _ _ a1) ?_
      rintro M2 v ⟨b2, c2, d2⟩
      rw [zn_one, pLoop, if_pos (by rw [e1, gq]; rfl)]
      have hle := hRp (r.2.1 + 1) (by omega)
      refine c_rf (sh_q1 hS) ?_
      cases e2 : (Rz (r.2.1 + 1)).1
      · obtain ⟨hv, σ', hσ⟩ := d2 e2
        refine c_clm (r_op0 hA hS hσ 0 (hk _ gq)) ?_
        rintro M3 _ ⟨a3, b3⟩
        refine c_bd ?_
        exact ih (i + 1) f M0 M3 σ0 (false, _, _) v (by omega) (by omega) (by show i + 1 ≤ (Rz (r.2.1 + 1)).2.1; omega) (Fr_tr hF (Fr_tr b1 (Fr_tr b2 b3))) (fun q1 => absurd (show false = true from q1) (by decide)) (fun _ => ⟨hv, _, a3⟩)
      · obtain ⟨hv, hσ⟩ := c2 e2
        refine c_clm (r_op0 hA hS hσ r.2.1 (hk _ gq)) ?_
        rintro M3 _ ⟨a3, b3⟩
        refine c_bd ?_
        refine ih (i + 1) f M0 M3 σ0 (true, _, _) v (by omega) (by omega) (by show i + 1 ≤ (Rz (r.2.1 + 1)).2.1; omega) (Fr_tr hF (Fr_tr b1 (Fr_tr b2 b3))) (fun _ => ⟨hv, ?_⟩) (fun q1 => absurd (show true = false from q1) (by decide))
        show CR ad M3 T tl (Rz (r.2.1 + 1)).2.1 (sOps T tl (r.2.2 ++ ((Rz (r.2.1 + 1)).2.2 ++ [(kdT T tl r.2.1, r.2.1)])) σ0)
        rw [sOps_app, sOps_app]
        exact a3
    rw [r_kind hS hc]
    refine c_cl (c_some (c_if (fun g3 => ?_) (fun g3 => ?_)))
    · rw [zn_inj (by omega) (by omega)] at g3
      exact go ((hq _).mpr (Or.inl g3))
    rw [zn_inj (by omega) (by omega)] at g3
    rw [r_kind hS hc]
    refine c_cl (c_some (c_if (fun g4 => ?_) (fun g4 => ?_)))
    · rw [zn_inj (by omega) (by omega)] at g4
      exact go ((hq _).mpr (Or.inr g4))
    rw [zn_inj (by omega) (by omega)] at g4
    refine stop (fun q1 => ?_)
    rw [Bool.and_eq_true] at q1
    rcases (hq _).mp q1.2 with e | e
    · exact g3 e
    · exact g4 e
end Expr
