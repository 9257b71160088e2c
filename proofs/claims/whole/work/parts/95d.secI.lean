/-! the reference's second pass: a step, with all that it carries -/
section SecI
variable {G : gS} {ad : Nat → Nat} {M1 M : mS} {T : Nat → Nat} {tl : Nat} {C : List Int32} {O : List Nat} {ro : Nat → Nat} {W : List (Nat × Nat)} {P : aP} {Y : aY} {c : Nat} {nm na : Nat → Nat} {p j x f : Nat} {σ σ' : aS} {Q : mS → Int32 → Prop}
theorem NmR_skip {r n : Nat} (hN : NmR T tl ro r j nm n) (h : ro j ≠ r) : NmR T tl ro r (j + 1) nm n := by
  refine ⟨?_, fun i hi hr => ?_⟩
  · rw [cnR, if_neg h]; exact hN.1
  · by_cases e : i = j
    · rw [e] at hr; exact absurd hr h
    · exact hN.2 i (by omega) hr
theorem NmR_add {r n : Nat} (hN : NmR T tl ro r j nm n) (h : ro j = r) : NmR T tl ro r (j + 1) (fun k => if k = n then keyT T tl j else nm k) (n + 1) := by
  refine ⟨?_, fun i hi hr => ?_⟩
  · rw [cnR, if_pos h, hN.1]
  · show (if cnR ro r i = n then keyT T tl j else nm (cnR ro r i)) = _
    by_cases e : i = j
    · rw [if_pos (by rw [e, hN.1]), e]
    · have h1 := cnR_le (ro := ro) (r := r) (i := i + 1) j (by omega)
      rw [cnR, if_pos hr] at h1
      rw [if_neg (by rw [hN.1]; omega)]
      exact hN.2 i (by omega) hr
/-- what the whole pass stands on -/
def EV (G : gS) (ad : Nat → Nat) (T : Nat → Nat) (tl : Nat) (ro : Nat → Nat) : Prop := Inj ad ∧ Sh G ad ∧ gP G (ad 70) 12 = some (ad 126) ∧ LSh G ad 126 ∧ tl ≤ 2000 ∧ (∀ k, k < tl → T k < 256) ∧ (∀ j, ro j < 1000) ∧ (∀ i, ro i = 1 → kdT T tl i = 2) ∧ ∀ i, ro i = 2 → kdT T tl i = 2
/-- what is carried: M1 the memory at the line's beginning p, M now at token j -/
def CI (ad : Nat → Nat) (T : Nat → Nat) (tl : Nat) (C : List Int32) (O : List Nat) (ro : Nat → Nat) (W : List (Nat × Nat)) (M1 M : mS) (p j : Nat) (P : aP) (Y : aY) (c : Nat) (nm na : Nat → Nat) : Prop := ML ad M T tl j C O ro W ∧ RP ad M P Y c ∧ (SFr ad M1 M ∧ ∀ i, i < p → mI M (ad 76) i = mI M1 (ad 76) i) ∧ NmR T tl ro 1 j nm (pg_r P) ∧ NmR T tl ro 2 j na (yd_n Y)
/-- the pass's memory after an error at the place pl -/
def EF (ad : Nat → Nat) (M1 M' : mS) (pl : Nat) : Prop := ∃ M2, SFr ad M1 M2 ∧ M' = wI M2 (ad 70) 3 (zn pl)
theorem EF_tr {M2 : mS} {pl : Nat} (h : SFr ad M1 M) (g : EF ad M M2 pl) : EF ad M1 M2 pl := by
  obtain ⟨M3, a, b⟩ := g
  exact ⟨M3, SFr_tr h a, b⟩
/-- the error of a state, if it has one, stands at pl -/
def eAt (σ : aS) (e pl : Nat) : Prop := sgE σ = e ∧ (e ≠ 0 → sgL σ = pl)
theorem PE_mono {x : Option (mS × Int32)} {e : Nat} {K K' : mS → Prop} (h : PostE ad j M x e K) (H : e = 0 → ∀ M', K M' → K' M') : PostE ad j M x e K' := c_mono h (fun M' _ q => ⟨q.1, q.2.1, q.2.2.1, fun g => H g M' (q.2.2.2 g)⟩)
/-- a step -/
theorem s_to (hE : EV G ad T tl ro) (h : CI ad T tl C O ro W M1 M p j P Y c nm na) (hp : p ≤ j) (hj : j < x) (hx : x ≤ nT T tl) {e : Nat} {P' : aP} {Y' : aY} {c' : Nat} {nm' na' : Nat → Nat} {K2 : mS → Prop} (he : PostE ad j M (m_X12_errorOf G M (ad 70) (zn j)) e (fun M' => RP ad M' P' Y' c' ∧ K2 M')) (he6 : e < 6) (hK : ∀ M' v, K2 M' → K2 (wI M' (ad 70) 9 v)) (n1 : e = 0 → NmR T tl ro 1 (j + 1) nm' (pg_r P')) (n2 : e = 0 → NmR T tl ro 2 (j + 1) na' (yd_n Y')) (hs : eAt σ e (tkP T tl j)) (hk : kE σ σ') (H0 : e = 0 → ∀ M', K2 M' → (∀ i, i ≠ j → mI M' (ad 76) i = mI M (ad 76) i) → CI ad T tl C O ro W M1 M' p (j + 1) P' Y' c' nm' na' → p_cl (m_X12_read_57 G (ad 70) f M' (zn x)) Q) (H1 : sgE σ' ≠ 0 → ∀ M', EF ad M1 M' (sgL σ') → Q M' (zn (sgE σ'))) : p_cl (m_X12_read_57 G (ad 70) (f + 1) M (zn x)) Q := by
  obtain ⟨hA, hS, hq, hL, htl, hT, hro, hr1, hr2⟩ := hE
  obtain ⟨hM, hR, ⟨hF, h76⟩, hn1, hn2⟩ := h
  have hn := nT_le (T := T) (tl := tl)
  refine t_step hS hM.1.2.1.1 hj (by omega) he ?_ ?_
  · rintro M2 ⟨e1, e2, e3, e4⟩
    have e0 : e = 0 := by
      have e1 : zn 0 = zn e := e1
      rw [zn_inj (by omega) (by omega)] at e1
      exact e1.symm
    obtain ⟨k1, k2⟩ := e4 e0
    rw [show mI M2 (ad 70) 9 = zn j from by rw [e3.1]; exact hM.1.2.1.1, zn_one]
    have f1 : SFr ad M (wI M2 (ad 70) 9 (zn (j + 1))) := SFr_tr e2 (SFr_x hA (by omega))
    have g76 : ∀ i, i ≠ j → mI (wI M2 (ad 70) 9 (zn (j + 1))) (ad 76) i = mI M (ad 76) i := fun i hi => by
      rw [wI_ne hA (Or.inl (by decide))]; exact e3.2 i hi
    refine H0 e0 _ (hK _ _ k2) g76 ⟨ML_S hA hM f1 wI_eq (by omega), RP_70 hA k1, ⟨SFr_tr hF f1, fun i hi => ?_⟩, n1 e0, n2 e0⟩
    rw [g76 i (by omega)]
    exact h76 i hi
  · rintro M2 v ⟨rfl, e2, e3, _⟩ e4
    have e0 : e ≠ 0 := fun q => e4 (by rw [q]; rfl)
    have q9 : mI M2 (ad 70) 9 = zn j := by rw [e3.1]; exact hM.1.2.1.1
    refine ⟨q9, ?_⟩
    have es := hs.1
    obtain ⟨a, b⟩ := hk (by rw [es]; exact e0)
    rw [show mI M2 (ad 73) j = zn (tkP T tl j) from by
      rw [e2.1.1 _ (SF_out hA (k := 73) (by decide) (by decide) (by decide))]
      exact (hM.1.1.2.1 j (by omega)).2]
    have := H1 (by rw [a, es]; exact e0) (wI M2 (ad 70) 3 (zn (tkP T tl j))) ⟨M2, SFr_tr hF e2, by rw [b, hs.2 e0]⟩
    rw [a, es] at this
    exact this
end SecI
