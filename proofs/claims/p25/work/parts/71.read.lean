/-! the class's parser: a whole list -/
/-- what a line does, by its word -/
def sLn (T : Nat → Nat) (tl p : Nat) (σ : aS) : aS :=
  if kdT T tl p = 200 then sRulL T tl p σ
  else if kdT T tl p = 205 then sAntL T tl p σ
  else if kdT T tl p = 213 then sPaint T tl p σ
  else if kdT T tl p = 214 then sWash T tl p σ
  else if kdT T tl p = 216 then sFace T tl p σ
  else sHalt T tl p σ
/-- a line and its end -/
def pLnE (T : Nat → Nat) (tl p : Nat) : Bool × Nat := if (pLn T tl p).1 then (if kdT T tl (pLn T tl p).2 = 59 then (true, (pLn T tl p).2 + 1) else (false, (pLn T tl p).2)) else (false, (pLn T tl p).2)
/-- all lines: read through or not, and where; what they do -/
def pAll (T : Nat → Nat) (tl : Nat) : Nat → Nat → Bool × Nat
  | 0, p => (true, p)
  | f + 1, p => if kdT T tl p = 0 then (true, p) else if (pLnE T tl p).1 then pAll T tl f (pLnE T tl p).2 else pLnE T tl p
def sAll (T : Nat → Nat) (tl : Nat) : Nat → Nat → aS → aS
  | 0, _, σ => σ
  | f + 1, p, σ => if kdT T tl p = 0 then σ else sAll T tl f (pLnE T tl p).2 (sLn T tl p σ)
section Read
variable {G : gS} {ad : Nat → Nat} {T : Nat → Nat} {tl : Nat}
theorem r_line (hA : Inj ad) (hS : Sh G ad) (hK : AK G ad) (hT : ∀ k, k < tl → T k < 256) {M : mS} {σ : aS} {p v : Nat} {k0 : mS → Int32 → Int32 → Option (mS × Int32)} (h : CR ad M T tl p σ) (h0 : kdT T tl p ≠ 0) {Q : mS → Int32 → Prop}
    (H : ∀ M', Fr (PF ad) M M' → ((pLnE T tl p).1 = true → CR ad M' T tl (pLnE T tl p).2 (sLn T tl p σ) → p_cl (k0 M' 1 (zn (v + 1))) Q) ∧ ((pLnE T tl p).1 = false → (∃ σ', CR ad M' T tl (pLnE T tl p).2 σ') → p_cl (k0 M' 0 (zn (v + 1))) Q)) :
    p_cl (if zn (kdT T tl p) = 200 then o_cl (m_X2_ruleLine G M (ad 55)) (fun M11 r12 => m_X2_read_198 G (ad 55) k0 M11 r12 (zn v)) else if zn (kdT T tl p) = 201 then m_X2_read_198 G (ad 55) k0 M ((0 : Int32)) (zn v) else if zn (kdT T tl p) = 202 then m_X2_read_198 G (ad 55) k0 M ((0 : Int32)) (zn v) else if zn (kdT T tl p) = 203 then m_X2_read_198 G (ad 55) k0 M ((0 : Int32)) (zn v) else if zn (kdT T tl p) = 204 then m_X2_read_198 G (ad 55) k0 M ((0 : Int32)) (zn v) else if zn (kdT T tl p) = 205 then o_cl (m_X2_antLine G M (ad 55)) (fun M19 r20 => m_X2_read_198 G (ad 55) k0 M19 r20 (zn v)) else if zn (kdT T tl p) = 206 then m_X2_read_198 G (ad 55) k0 M ((0 : Int32)) (zn v) else if zn (kdT T tl p) = 207 then m_X2_read_198 G (ad 55) k0 M ((0 : Int32)) (zn v) else if zn (kdT T tl p) = 208 then m_X2_read_198 G (ad 55) k0 M ((0 : Int32)) (zn v) else if zn (kdT T tl p) = 209 then m_X2_read_198 G (ad 55) k0 M ((0 : Int32)) (zn v) else if zn (kdT T tl p) = 210 then m_X2_read_198 G (ad 55) k0 M ((0 : Int32)) (zn v) else if zn (kdT T tl p) = 211 then m_X2_read_198 G (ad 55) k0 M ((0 : Int32)) (zn v) else if zn (kdT T tl p) = 212 then m_X2_read_198 G (ad 55) k0 M ((0 : Int32)) (zn v) else if zn (kdT T tl p) = 213 then o_cl (m_X2_paintLine G M (ad 55)) (fun M30 r31 => m_X2_read_198 G (ad 55) k0 M30 r31 (zn v)) else if zn (kdT T tl p) = 214 then o_cl (m_X2_washLine G M (ad 55)) (fun M34 r35 => m_X2_read_198 G (ad 55) k0 M34 r35 (zn v)) else if zn (kdT T tl p) = 215 then m_X2_read_198 G (ad 55) k0 M ((0 : Int32)) (zn v) else if zn (kdT T tl p) = 216 then o_cl (m_X2_faceLine G M (ad 55)) (fun M39 r40 => m_X2_read_198 G (ad 55) k0 M39 r40 (zn v)) else if zn (kdT T tl p) = 217 then o_cl (m_X2_haltLine G M (ad 55)) (fun M43 r44 => m_X2_read_198 G (ad 55) k0 M43 r44 (zn v)) else if zn (kdT T tl p) = 218 then o_cl (m_X2_haltLine G M (ad 55)) (fun M47 r48 => m_X2_read_198 G (ad 55) k0 M47 r48 (zn v)) else m_X2_read_198 G (ad 55) k0 M ((0 : Int32)) (zn v)) Q := by
  have hb : kdT T tl p < 1000 := kdT_le hT
  have no : ∀ {n : Nat}, n < 1000 → kdT T tl p ≠ n → ¬ zn (kdT T tl p) = OfNat.ofNat n := fun hn h q => h ((zn_lit hb hn).mp q)
  have ye : ∀ {n : Nat}, n < 1000 → kdT T tl p = n → zn (kdT T tl p) = OfNat.ofNat n := fun hn h => (zn_lit hb hn).mpr h
  -- a line is read: its end is looked for
  have aft : ∀ (x : Option (mS × Int32)), PostL ad T tl M x (pLn T tl p) (sLn T tl p σ) → p_cl (o_cl x (fun M11 r12 => m_X2_read_198 G (ad 55) k0 M11 r12 (zn v))) Q := fun x hx => by
    refine c_clm hx ?_
    rintro M1 r ⟨f1, t1, n1⟩
    unfold m_X2_read_198 m_X2_read_215 m_X2_read_216
    cases e : (pLn T tl p).1
    · obtain ⟨rfl, hσ⟩ := n1 e
      have e1 : pLnE T tl p = (false, (pLn T tl p).2) := by unfold pLnE; rw [e]; rfl
      refine c_t rfl (c_bd ?_)
      rw [zn_one]
      exact (H M1 f1).2 (by rw [e1]) (by rw [e1]; exact hσ)
    · obtain ⟨rfl, h1⟩ := t1 e
      refine c_f (by decide) (c_clm (r_take hA hS hT h1 (k := 59) (by decide) (by decide)) ?_)
      rintro M2 r ⟨a2, b2, f2⟩
      by_cases k2 : kdT T tl (pLn T tl p).2 = 59
      · obtain ⟨rfl, h2⟩ := a2 k2
        have e1 : pLnE T tl p = (true, (pLn T tl p).2 + 1) := by unfold pLnE; rw [e, if_pos rfl, if_pos k2]
        refine c_f (by decide) (c_bd ?_)
        rw [zn_one]
        exact (H M2 (Fr_tr f1 f2)).1 (by rw [e1]) (by rw [e1]; exact h2)
      · obtain ⟨rfl, h2⟩ := b2 k2
        have e1 : pLnE T tl p = (false, (pLn T tl p).2) := by unfold pLnE; rw [e, if_pos rfl, if_neg k2]
        refine c_t rfl (c_bd ?_)
        rw [zn_one]
        exact (H M2 (Fr_tr f1 f2)).2 (by rw [e1]) (by rw [e1]; exact ⟨_, h2⟩)
  have bad : pLn T tl p = (false, p) → p_cl (m_X2_read_198 G (ad 55) k0 M ((0 : Int32)) (zn v)) Q := fun e => by
    have e1 : pLnE T tl p = (false, p) := by unfold pLnE; rw [e]; rfl
    unfold m_X2_read_198 m_X2_read_215 m_X2_read_216
    refine c_t rfl (c_bd ?_)
    rw [zn_one]
    exact (H M Fr_rf).2 (by rw [e1]) (by rw [e1]; exact ⟨_, h⟩)
  have lt : 2 ≤ kdT T tl p → p < nT T tl := fun q => kdT_lt q
  by_cases k200 : kdT T tl p = 200
  · refine c_t (ye (n := 200) (by decide) k200) (aft _ ?_)
    unfold pLn sLn
    rw [if_pos k200, if_pos k200]
    exact r_rule hA hS hT h (lt (by omega))
  refine c_f (no (n := 200) (by decide) k200) ?_
  by_cases k205 : kdT T tl p = 205
  · refine c_f (no (n := 201) (by decide) (by omega)) (c_f (no (n := 202) (by decide) (by omega)) (c_f (no (n := 203) (by decide) (by omega)) (c_f (no (n := 204) (by decide) (by omega)) (c_t (ye (n := 205) (by decide) k205) (aft _ ?_)))))
    unfold pLn sLn
    rw [if_neg k200, if_neg k200, if_pos k205, if_pos k205]
    exact r_ant hA hS hK hT h (lt (by omega))
  by_cases k213 : kdT T tl p = 213
  · refine c_f (no (n := 201) (by decide) (by omega)) (c_f (no (n := 202) (by decide) (by omega)) (c_f (no (n := 203) (by decide) (by omega)) (c_f (no (n := 204) (by decide) (by omega)) (c_f (no (n := 205) (by decide) (by omega)) (c_f (no (n := 206) (by decide) (by omega)) (c_f (no (n := 207) (by decide) (by omega)) (c_f (no (n := 208) (by decide) (by omega)) (c_f (no (n := 209) (by decide) (by omega)) (c_f (no (n := 210) (by decide) (by omega)) (c_f (no (n := 211) (by decide) (by omega)) (c_f (no (n := 212) (by decide) (by omega)) (c_t (ye (n := 213) (by decide) k213) (aft _ ?_)))))))))))))
    unfold pLn sLn
    rw [if_neg k200, if_neg k200, if_neg k205, if_neg k205, if_pos k213, if_pos k213]
    exact r_paint hA hS hT h (lt (by omega))
  by_cases k214 : kdT T tl p = 214
  · refine c_f (no (n := 201) (by decide) (by omega)) (c_f (no (n := 202) (by decide) (by omega)) (c_f (no (n := 203) (by decide) (by omega)) (c_f (no (n := 204) (by decide) (by omega)) (c_f (no (n := 205) (by decide) (by omega)) (c_f (no (n := 206) (by decide) (by omega)) (c_f (no (n := 207) (by decide) (by omega)) (c_f (no (n := 208) (by decide) (by omega)) (c_f (no (n := 209) (by decide) (by omega)) (c_f (no (n := 210) (by decide) (by omega)) (c_f (no (n := 211) (by decide) (by omega)) (c_f (no (n := 212) (by decide) (by omega)) (c_f (no (n := 213) (by decide) (by omega)) (c_t (ye (n := 214) (by decide) k214) (aft _ ?_))))))))))))))
    unfold pLn sLn
    rw [if_neg k200, if_neg k200, if_neg k205, if_neg k205, if_neg k213, if_neg k213, if_pos k214, if_pos k214]
    exact r_wash hA hS hT h (lt (by omega))
  by_cases k216 : kdT T tl p = 216
  · refine c_f (no (n := 201) (by decide) (by omega)) (c_f (no (n := 202) (by decide) (by omega)) (c_f (no (n := 203) (by decide) (by omega)) (c_f (no (n := 204) (by decide) (by omega)) (c_f (no (n := 205) (by decide) (by omega)) (c_f (no (n := 206) (by decide) (by omega)) (c_f (no (n := 207) (by decide) (by omega)) (c_f (no (n := 208) (by decide) (by omega)) (c_f (no (n := 209) (by decide) (by omega)) (c_f (no (n := 210) (by decide) (by omega)) (c_f (no (n := 211) (by decide) (by omega)) (c_f (no (n := 212) (by decide) (by omega)) (c_f (no (n := 213) (by decide) (by omega)) (c_f (no (n := 214) (by decide) (by omega)) (c_f (no (n := 215) (by decide) (by omega)) (c_t (ye (n := 216) (by decide) k216) (aft _ ?_))))))))))))))))
    unfold pLn sLn
    rw [if_neg k200, if_neg k200, if_neg k205, if_neg k205, if_neg k213, if_neg k213, if_neg k214, if_neg k214, if_pos k216, if_pos k216]
    exact r_face hA hS hT h (lt (by omega))
  have hx : ∀ x : Option (mS × Int32), (kdT T tl p = 217 ∨ kdT T tl p = 218) → PostL ad T tl M x (pThen T tl (pPre (kdT T tl) haltQ (p + 1))) (sHalt T tl p σ) → PostL ad T tl M x (pLn T tl p) (sLn T tl p σ) := fun x hk hp => by
    unfold pLn sLn
    rw [if_neg k200, if_neg k200, if_neg k205, if_neg k205, if_neg k213, if_neg k213, if_neg k214, if_neg k214, if_neg k216, if_neg k216, if_pos hk]
    exact hp
  have hbad : ¬ (kdT T tl p = 217 ∨ kdT T tl p = 218) → pLn T tl p = (false, p) := fun hk => by
    unfold pLn
    rw [if_neg k200, if_neg k205, if_neg k213, if_neg k214, if_neg k216, if_neg hk]
  refine c_if (fun g => bad (hbad (by have := (zn_lit (k := 201) hb (by decide)).mp g; omega))) (fun _ => ?_)
  refine c_if (fun g => bad (hbad (by have := (zn_lit (k := 202) hb (by decide)).mp g; omega))) (fun _ => ?_)
  refine c_if (fun g => bad (hbad (by have := (zn_lit (k := 203) hb (by decide)).mp g; omega))) (fun _ => ?_)
  refine c_if (fun g => bad (hbad (by have := (zn_lit (k := 204) hb (by decide)).mp g; omega))) (fun _ => ?_)
  refine c_f (no (n := 205) (by decide) k205) ?_
  refine c_if (fun g => bad (hbad (by have := (zn_lit (k := 206) hb (by decide)).mp g; omega))) (fun _ => ?_)
  refine c_if (fun g => bad (hbad (by have := (zn_lit (k := 207) hb (by decide)).mp g; omega))) (fun _ => ?_)
  refine c_if (fun g => bad (hbad (by have := (zn_lit (k := 208) hb (by decide)).mp g; omega))) (fun _ => ?_)
  refine c_if (fun g => bad (hbad (by have := (zn_lit (k := 209) hb (by decide)).mp g; omega))) (fun _ => ?_)
  refine c_if (fun g => bad (hbad (by have := (zn_lit (k := 210) hb (by decide)).mp g; omega))) (fun _ => ?_)
  refine c_if (fun g => bad (hbad (by have := (zn_lit (k := 211) hb (by decide)).mp g; omega))) (fun _ => ?_)
  refine c_if (fun g => bad (hbad (by have := (zn_lit (k := 212) hb (by decide)).mp g; omega))) (fun _ => ?_)
  refine c_f (no (n := 213) (by decide) k213) ?_
  refine c_f (no (n := 214) (by decide) k214) ?_
  refine c_if (fun g => bad (hbad (by have := (zn_lit (k := 215) hb (by decide)).mp g; omega))) (fun _ => ?_)
  refine c_f (no (n := 216) (by decide) k216) ?_
  by_cases k217 : kdT T tl p = 217
  · exact c_t (ye (n := 217) (by decide) k217) (aft _ (hx _ (Or.inl k217) (r_halt hA hS hT h (lt (by omega)))))
  refine c_f (no (n := 217) (by decide) k217) ?_
  by_cases k218 : kdT T tl p = 218
  · exact c_t (ye (n := 218) (by decide) k218) (aft _ (hx _ (Or.inr k218) (r_halt hA hS hT h (lt (by omega)))))
  exact c_f (no (n := 218) (by decide) k218) (bad (hbad (by omega)))
theorem pPre_ge {kd : Nat → Nat} : ∀ (l : List (Nat → Bool)) (p : Nat), p ≤ (pPre kd l p).2 := by
  intro l
  induction l with
  | nil => intro p; exact Nat.le_refl _
  | cons q l ih =>
    intro p
    rw [pPre]
    split
    · have := ih (p + 1); omega
    · exact Nat.le_refl _
theorem pThen_ge {r : Bool × Nat} (h : r.2 ≤ nT T tl) : r.2 ≤ (pThen T tl r).2 := by
  unfold pThen
  split
  · exact (pz_ge h).1
  · exact Nat.le_refl _
/-- what read answers -/
def PostR (ad : Nat → Nat) (T : Nat → Nat) (tl : Nat) (M : mS) (x : Option (mS × Int32)) (r : Bool × Nat) (σ : aS) : Prop := p_cl x (fun M' v => Fr (PF ad) M M' ∧ (r.1 = true → v = zn (sgE σ) ∧ CR ad M' T tl r.2 σ) ∧ (r.1 = false → v = 1 ∧ mI M' (ad 55) 7 = zn (tkP T tl r.2) ∧ ∃ σ', CR0 ad M' T tl σ' ∧ SV σ'))
theorem r_readE (hA : Inj ad) (hS : Sh G ad) {M0 M : mS} {p : Nat} {σ : aS} {v1 : Int32} {b : Bool} (hF : Fr (PF ad) M0 M) (h1 : b = true → v1 = 1 ∧ CR ad M T tl p σ) (h2 : b = false → v1 = 0 ∧ ∃ σ', CR ad M T tl p σ') : PostR ad T tl M0 (m_X2_read_223 G (ad 55) M v1) (b, p) σ := by
  unfold m_X2_read_223 m_X2_read_237
  cases b
  · obtain ⟨rfl, σ', hc, ⟨g1, g2, g3, g4⟩, hv⟩ := h2 rfl
    have hn := nT_le (T := T) (tl := tl)
    refine c_t rfl (c_wI (c_cl ?_))
    unfold m_X2_complain
    rw [show mI (wI M (ad 55) 6 (0 : Int32)) (ad 55) 6 = 0 from wI_eq]
    refine c_t rfl (c_wI ?_)
    have e3 : mI (wI (wI M (ad 55) 6 0) (ad 55) 6 1) (ad 61) p = zn (tkP T tl p) := by
      rw [wI_ne hA (Or.inl (by decide)), wI_ne hA (Or.inl (by decide))]
      exact (hc.1.2.1 p g2).2
    rw [show mI (wI (wI M (ad 55) 6 0) (ad 55) 6 1) (ad 55) 5 = zn p from by rw [wI_ne hA (show (55 : Nat) ≠ 55 ∨ (5 : Nat) ≠ 6 by decide), wI_ne hA (show (55 : Nat) ≠ 55 ∨ (5 : Nat) ≠ 6 by decide), g1]]
    refine c_f (zn_nn (by omega)) (c_rf (sh_q0 hS) (c_rf (sh_k3 hS) ?_))
    rw [sh_kn3 hS]
    refine c_f (by rw [zn_le (by omega) (by omega)]; omega) (c_rf (sh_q0 hS) (c_rf (sh_k3 hS) (c_ix (by rw [sh_kn3 hS]; exact zn_in (by omega) (by decide)) ?_)))
    rw [zn_nat (show p < 2147483648 by omega), e3]
    unfold m_X2_complain_51
    refine c_wI (c_some (c_some ?_))
    have hF2 : Fr (Bk ad 55 56) M (wI (wI (wI M (ad 55) 6 0) (ad 55) 6 1) (ad 55) 7 (zn (tkP T tl p))) := Fr_wI (Fr_wI (Fr_wI Fr_rf (Bk_in (by omega) (by omega))) (Bk_in (by omega) (by omega))) (Bk_in (by omega) (by omega))
    refine ⟨Fr_tr hF (PF_55 hF2), fun q => absurd (show false = true from q) (by decide), fun _ => ⟨?_, wI_eq, σ', CR0_55 hA hc hv.2.1.2.1 hF2, hv⟩⟩
    rw [wI_ne hA (by decide), wI_eq]
  · obtain ⟨rfl, h⟩ := h1 rfl
    exact c_f (by decide) (c_some ⟨hF, fun _ => ⟨h.2.1.2.2.1, h⟩, fun q => absurd (show true = false from q) (by decide)⟩)
end Read
