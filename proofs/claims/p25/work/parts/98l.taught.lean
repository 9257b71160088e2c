/-! the text is told to the class -/
/-- byte p of the text, blanks behind it -/
def bS (L : List Nat) (p : Nat) : Nat := if p < L.length then L.getD p 0 else 32
theorem bS_lt {L : List Nat} (h : asc L) {p : Nat} : bS L p < 256 := by
  unfold bS
  split
  · next q => have := h p q; omega
  · decide
section Taught
variable {D : va_G} {G G' : gS} {M M' : mS} {rl rl' : Nat → Nat} {ad : Nat → Nat} {o : Nat} {S : sA} {P : aP} {q : Nat → Nat → Nat} {Y : aY} {T : Nat → Nat} {tl : Nat} {ea : Int32} {b u : uS} {x t w : Nat} {L : List Nat} {post : gS → mS → Int32 → Prop}
/-- the class, the hand, the text, five numbers -/
def TA (G : gS) (M : mS) (rl : Nat → Nat) (ad : Nat → Nat) (o : Nat) (S : sA) (P : aP) (q : Nat → Nat → Nat) (Y : aY) (T : Nat → Nat) (tl : Nat) (ea : Int32) (t w x : Nat) (L : List Nat) : Prop := CL G M rl ad aY0 aP0 T tl ea ∧ SM G M rl o S P q Y ∧ PS G M rl 20050 t w L ∧ (rl x = 20060 ∧ gN G x = 5)
theorem ad_nx (hC : CL G M rl ad aY0 aP0 T tl ea) {y r : Nat} (h : rl y = r) (h0 : 0 < r) : ∀ k, k < 66 → ad k ≠ y := fun k hk e => by
  have := (hC.2.2.1 k hk).2
  rw [e, h] at this
  omega
theorem PS_cg {s : Nat} (h : PS G M rl s t w L) (h1 : mI M' t = mI M t) (h2 : mI M' w = mI M w) : PS G M' rl s t w L := by
  obtain ⟨a1, a2, a3, a4⟩ := h
  exact ⟨a1, a2, by rw [h1]; exact a3, fun k hk => by rw [h2]; exact a4 k hk⟩
theorem TA_w (hb : SGb P (yd_n Y)) (h : TA G M rl ad o S P q Y T tl ea t w x L) {j : Nat} {v : Int32} : TA G (wI M x j v) rl ad o S P q Y T tl ea t w x L := by
  obtain ⟨hC, hM, hp, hx⟩ := h
  refine ⟨CL_w (by decide) hC (ad_nx hC hx.1 (by decide)), SM_tw hb hM (fun z => by unfold Si at z; omega), PS_cg hp (mI_ne (rl_ne (rl := rl) ?_)) (mI_ne (rl_ne (rl := rl) ?_)), hx⟩
  · have := hp.1.2
    omega
  · have := hp.2.1.2.2.1
    omega
theorem TA_fr (hb : SGb P (yd_n Y)) (h : TA G M rl ad o S P q Y T tl ea t w x L) {T' : Nat → Nat} {tl' : Nat} {ea' : Int32} (hc : CA ad M' aY0 aP0 T' tl' ea') (hF : Fr (Bk ad 0 66) M M') : TA G M' rl ad o S P q Y T' tl' ea' t w x L ∧ mI M' x = mI M x := by
  obtain ⟨hC, hM, hp, hx⟩ := h
  refine ⟨⟨CL_ca hC hc, SM_fr hb hC hM hF, PS_cg hp (Fr_r hC hF ?_) (Fr_r hC hF ?_), hx⟩, Fr_r hC hF (by omega)⟩
  · have := hp.1.2
    omega
  · have := hp.2.1.2.2.1
    omega
theorem n20_ : (20 : Int32) = zn 20 := rfl
/-- twenty bytes more -/
theorem t_23 (hb : SGb P (yd_n Y)) (hu : uL u b) (hL : asc L) (hlen : L.length ≤ 1900) {A : Nat} (hA : A ≤ 1920) (h : TA G M rl ad o S P q Y T A ea t w x L) {kb : uS → gS → mS → Nat → Int32 → Prop} (hk : ∀ M' T', (∀ p, p < A → T' p = T p) → (∀ p, A ≤ p → p < A + 20 → T' p = bS L p) → TA G M' rl ad o S P q Y T' (A + 20) ea t w x L → kb u G M' x (zn (A + 20))) : nl_L_taught_23 D b (ad 0) t kb post u G M x (zn A) (0 : Int32) := by
  refine ⟨fun m u1 G1 M1 w2 w3 w4 => u = u1 ∧ G = G1 ∧ x = w2 ∧ zn A = w3 ∧ ∃ k, m + k = 20 ∧ zn k = w4 ∧ TA G M1 rl ad o S P q Y T A ea t w x L ∧ ∀ i, i < 5 → PB (mI M1 x i) (min 4 (k - 4 * i)) (fun j => bS L (A + 4 * i + j)), 20, ⟨rfl, rfl, rfl, rfl, 0, rfl, rfl, h, fun i _ j hj => absurd hj (by omega)⟩, ?_⟩
  rintro m u1 G1 M1 w2 w3 w4 ⟨rfl, rfl, rfl, rfl, k, hm, rfl, h1, hP⟩
  have gx : gN G x = 5 := h1.2.2.2.2
  unfold nb_L_taught_23
  by_cases e : k = 20
  · subst e
    have hi : ∀ {j : Nat}, j < 5 → vp_in (zn j) (gN G x) := fun hj => by rw [gx]; exact zn_in hj (by decide)
    refine i_t ((zn_le (a := 20) (b := 20) (by decide) (by decide)).mpr (Nat.le_refl _)) (i_ix (hi (j := 0) (by decide)) (i_ix (hi (j := 1) (by decide)) (i_ix (hi (j := 2) (by decide)) (i_ix (hi (j := 3) (by decide)) (i_ix (hi (j := 4) (by decide)) ?_)))))
    rw [nat_0, nat_1, nat_2, nat_3, nat_4]
    refine i_cl (c_feed h1.1.1 h1.1.2.1 (by decide) h1.1.2.2.2.2 (by omega)) (fun M2 r hr => ?_)
    obtain ⟨_, hc, hF⟩ := hr
    obtain ⟨h2, _⟩ := TA_fr hb h1 hc hF
    refine i_bde (show zn A + (20 : Int32) = zn (A + 20) from zn_add A 20) (hk _ _ (fun p hp => ?_) (fun p hp1 hp2 => ?_) h2)
    · show (if p < A then T p else _) = _
      rw [if_pos hp]
    · show (if p < A then T p else byN (fdA (mI M1 x 0) (mI M1 x 1) (mI M1 x 2) (mI M1 x 3) (mI M1 x 4) ((p - A) / 4)) ((p - A) % 4)) = _
      rw [if_neg (by omega)]
      obtain ⟨i, j, hi5, hj4, hp3⟩ : ∃ i j, i < 5 ∧ j < 4 ∧ p = A + 4 * i + j := ⟨(p - A) / 4, (p - A) % 4, by omega, by omega, by omega⟩
      have e1 : (p - A) / 4 = i := by omega
      have e2 : (p - A) % 4 = j := by omega
      rw [e1, e2, hp3]
      have ef : fdA (mI M1 x 0) (mI M1 x 1) (mI M1 x 2) (mI M1 x 3) (mI M1 x 4) i = mI M1 x i := by
        rcases (show i = 0 ∨ i = 1 ∨ i = 2 ∨ i = 3 ∨ i = 4 by omega) with rfl | rfl | rfl | rfl | rfl <;> rfl
      have hp4 := hP i hi5
      rw [show min 4 (20 - 4 * i) = 4 by omega] at hp4
      have := hp4 j hj4
      rw [show 4 - 4 + j = j by omega] at this
      rw [ef, this]
  · have hk2 : k < 20 := by omega
    have d4 : (zn k : Int32) / (4 : Int32) = zn (k / 4) := zn_div (b := 4) (by omega) (by decide)
    have hi4 : k / 4 < 5 := by omega
    refine i_f (fun z => e (by have := (zn_le (a := 20) (b := k) (by decide) (by omega)).mp z; omega)) (i_ck (by decide) (i_ck (by decide) ?_))
    rw [d4, zn_nat (show k / 4 < 2147483648 by omega), show zn A + zn k = zn (A + k) from zn_add A k]
    have fin : ∀ c : Int32, c = zn (bS L (A + k)) → nb_L_taught_68 D b (ad 0) t kb (fun u' G' M' v2 v3 v4 => ∃ k', k' < m ∧ (u = u' ∧ G = G' ∧ x = v2 ∧ zn A = v3 ∧ ∃ k, k' + k = 20 ∧ zn k = v4 ∧ TA G M' rl ad o S P q Y T A ea t w x L ∧ ∀ i, i < 5 → PB (mI M' x i) (min 4 (k - 4 * i)) (fun j => bS L (A + 4 * i + j)))) post u G M1 x (zn A) (zn k) x (zn (k / 4)) (mI M1 x (k / 4) <<< ((8 : Int32) &&& 31)) c := by
      intro c hc
      unfold nb_L_taught_68
      rw [zn_nat (show k / 4 < 2147483648 by omega), hc]
      refine i_ix (by rw [gx]; exact zn_in hi4 (by decide)) (i_wI (i_bde (zn_one k) ⟨m - 1, by omega, rfl, rfl, rfl, rfl, k + 1, by omega, rfl, TA_w hb h1, fun i hi5 => ?_⟩))
      rw [mI_eq]
      by_cases q2 : i = k / 4
      · rw [if_pos q2, show min 4 (k + 1 - 4 * i) = min 4 (k - 4 * i) + 1 by omega]
        have := hP i hi5
        rw [q2] at this ⊢
        refine PB_s this (by omega) (bS_lt hL) ?_
        show bS L (A + 4 * (k / 4) + min 4 (k - 4 * (k / 4))) = _
        rw [show A + 4 * (k / 4) + min 4 (k - 4 * (k / 4)) = A + k by omega]
      · rw [if_neg q2, show min 4 (k + 1 - 4 * i) = min 4 (k - 4 * i) by omega]
        exact hP i hi5
    refine i_ix (by rw [gx]; exact zn_in hi4 (by decide)) (i_ca0 hu (j_len h1.2.2.1 ?_))
    refine i_if (fun z => ?_) (fun z => ?_)
    · have z2 := (zn_le (by omega) (by omega)).mp z
      exact fin _ (by unfold bS; rw [if_neg (by omega)]; rfl)
    · have z2 : A + k < L.length := by
        have : ¬ L.length ≤ A + k := fun z3 => z ((zn_le (by omega) (by omega)).mpr z3)
        omega
      exact i_ca0 hu (j_chr h1.2.2.1 hL (by omega) z2 (fin _ (by unfold bS; rw [if_pos z2])))
theorem s_taught (hb : SGb P (yd_n Y)) (hLe : L = txO D (zOn D)) (hB : uL (1, 5) b) (hC : CL G M rl ad aY0 aP0 (fun _ => 0) 0 ea) (hM : SM G M rl o S P q Y) (hp : PS G M rl 20050 t w L) (hk : ∀ G' M' rl' σ T' ea', IS D (zR D) (zN D) (zPn D) (zOn D) σ → CL G' M' rl' ad (sgY σ) (sgP σ) T' 0 ea' → SM G' M' rl' o S P q Y → post G' M' 0) : n_L_taught D b G M (ad 0) t post := by
  have hAN := AN_O (D := D) (zOn D)
  have hO := zOn_b (D := D)
  rw [← hLe] at hAN
  obtain ⟨hL, hlen⟩ := hAN
  unfold n_L_taught
  refine i_na (N := 5) rfl (by decide) (uL_tr ⟨by decide, by decide⟩ hB) (fun x hx => ?_)
  have hC1 := CL_kp (by decide) hC (Kp_nw (k := 12) (n := 5) (r := 20060) hx)
  have hM1 := SM_nw (k := 12) (n := 5) (r := 20060) hb hM hx
  have hp1 := PS_kt hp (Kt_nw (r := 1) (M := M) (rl := rl) (k := 12) (n := 5) (s := 20060) hx) (by decide) (by decide) (by decide)
  have h0 : TA (gNw G x 12 5) (wZ M x) (rU rl x 20060) ad o S P q Y (fun _ => 0) 0 ea t w x L := ⟨hC1, hM1, hp1, rU_eq, gN_nw⟩
  refine i_cl (p_trim hC1.1 hC1.2.1 (by decide) hC1.2.2.2.2 (t := 0) (Nat.le_refl _) (by decide)) (fun M2 r hr => ?_)
  obtain ⟨h2, _⟩ := TA_fr hb h0 hr.1 hr.2
  generalize gNw G x 12 5 = G2 at *
  generalize rU rl x 20060 = rl2 at *
  have hu : uL (uP (0, 0) (1, 5)) b := uL_tr ⟨by decide, by decide⟩ hB
  generalize uP (0, 0) (1, 5) = u0 at *
  refine ⟨fun m u1 G1 M1 w2 w3 => u0 = u1 ∧ G2 = G1 ∧ x = w2 ∧ ∃ A T, m + A = 2000 ∧ zn A = w3 ∧ A ≤ L.length + 19 ∧ TA G2 M1 rl2 ad o S P q Y T A ea t w x L ∧ ∀ p, p < A → T p = bS L p, 2000, ⟨rfl, rfl, rfl, 0, _, rfl, rfl, Nat.zero_le _, h2, fun p hp => absurd hp (Nat.not_lt_zero p)⟩, ?_⟩
  rintro m u1 G1 M1 w2 w3 ⟨rfl, rfl, rfl, A, T, hm, rfl, hA, h3, hT⟩
  unfold nb_L_taught_12
  refine i_ca0 hu (j_len h3.2.2.1 (i_if (fun z => ?_) (fun z => ?_)))
  · have z2 := (zn_le (by omega) (by omega)).mp z
    refine i_ca0 hu (j_len h3.2.2.1 ?_)
    refine i_cl (p_trim h3.1.1 h3.1.2.1 (by decide) h3.1.2.2.2.2 (t := L.length) z2 (by omega)) (fun M4 r hr => ?_)
    obtain ⟨h4, _⟩ := TA_fr hb h3 hr.1 hr.2
    have hTL : ∀ k, k < L.length → T k = gB (txO D (zOn D)) k := fun k hk2 => by
      rw [hT k (by omega), ← hLe]
      unfold bS
      rw [if_pos hk2]
      rfl
    have hT256 : ∀ k, k < L.length → T k < 256 := fun k hk2 => by rw [hT k (by omega)]; exact bS_lt hL
    obtain ⟨r1, r2⟩ := rd_ok (D := D) (T := T) (tl := L.length) (by omega) hTL (by rw [hLe])
    have eE : tcE T L.length = 0 := by
      unfold tcE
      rw [if_pos r1]
      exact r2.1
    refine i_cl (c_teach h4.1.1 h4.1.2.1 h4.1.2.2.2.1 (by omega) hT256 (by decide) h4.1.2.2.2.2) (fun M5 r hr => ?_)
    obtain ⟨er, hc, hF⟩ := hr
    have eY : tcY T L.length aY0 = sgY (rdS T L.length) := by unfold tcY; rw [if_pos eE]
    have eP : tcP T L.length aP0 = sgP (rdS T L.length) := by unfold tcP; rw [if_pos eE]
    rw [eY, eP] at hc
    rw [er, eE]
    exact hk _ _ rl2 _ _ _ r2 (CL_ca h4.1 hc) (SM_fr hb h4.1 h4.2.1 hF)
  · have z2 : A < L.length := by
      have : ¬ L.length ≤ A := fun z3 => z ((zn_le (by omega) (by omega)).mpr z3)
      omega
    refine t_23 hb hu hL (by omega) (by omega) h3 (fun M4 T4 e1 e2 h4 => ⟨m - 20, by omega, rfl, rfl, rfl, A + 20, T4, by omega, rfl, by omega, h4, fun p hp => ?_⟩)
    by_cases q2 : p < A
    · rw [e1 p q2]; exact hT p q2
    · exact e2 p (by omega) hp
end Taught
