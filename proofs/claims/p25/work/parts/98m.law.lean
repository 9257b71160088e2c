/-! the law, from its first word on -/
section LawS
variable {D : va_G} {G G' : gS} {M M' : mS} {rl rl' : Nat → Nat} {ad : Nat → Nat} {o a v cap : Nat} {S : sA} {P : aP} {q : Nat → Nat → Nat} {Y : aY} {T : Nat → Nat} {tl : Nat} {ea : Int32} {b u : uS}
theorem s_list (hX : xL D ≤ 260) (hT : TB G M rl 20000 a v 16 []) (hbb : 1000 ≤ b.1 ∧ 200000 ≤ b.2) {post : gS → mS → Nat → Prop} (hk : ∀ G' M' rl' o S' v' cap', SM G' M' rl' o S' (pzD D (zR D) (zOn D)) (zQ D) (yzD D (zN D) (zPn D)) → TB G' M' rl' 20000 a v' cap' (txO D (zOn D)) → post G' M' o) : n_L_list D b G M a post := by
  unfold n_L_list
  obtain ⟨b1, b2⟩ := hbb
  refine ⟨⟨by show 0 + 1 ≤ b.1; omega, by show 0 + 9 ≤ b.2; omega⟩, fun o ho => ⟨(69, 4160), ⟨by show 0 + 1 + 69 ≤ b.1; omega, by show 0 + 9 + 4160 ≤ b.2; omega⟩, ?_⟩⟩
  refine s_init (D := D) (rl := rU rl o 1) ⟨gL_nw, gK_nw, rU_eq⟩ (fun j _ => wZ_eq) (TB_nw (k := 9) (n := 0) (s := 1) hT ho) (by decide) ⟨Nat.le_refl _, Nat.le_refl _⟩ (fun G1 M1 rl1 S1 hM1 hT1 => ?_)
  have hu : uL (uP (uP (0, 0) (1, 9)) (69, 4160)) b := ⟨by show 0 + 1 + 69 ≤ b.1; omega, by show 0 + 9 + 4160 ≤ b.2; omega⟩
  have hU : UB 70 4169 (uP (uP (0, 0) (1, 9)) (69, 4160)) 16 0 := ⟨by decide, by decide, by decide, by decide, by decide⟩
  refine i_ca0 hu (s_cellD hX (k := 0) rfl (by decide) (i_ca0 hu (s_below (n := 3) rfl (by decide) (by decide) (i_bde (e' := zn (zR D)) (zn_add 1 _) ?_))))
  exact r_23 hX ⟨b1, b2⟩ hM1 hT1 hU (fun u2 G2 M2 rl2 S2 v2 cap2 hM2 hT2 hU2 => y_159 hX ⟨b1, b2⟩ hM2 hT2 hU2 (fun u3 G3 M3 rl3 S3 v3 cap3 hM3 hT3 hU3 => p_401 hX ⟨b1, b2⟩ hM3 hT3 hU3 (fun u4 G4 M4 rl4 S4 v4 cap4 hM4 hT4 hU4 => o_538 hX ⟨b1, b2⟩ hM4 hT4 hU4 (fun G5 M5 rl5 S5 v5 cap5 hM5 hT5 => hk G5 M5 rl5 o S5 v5 cap5 hM5 hT5))))
/-- the class stays where texts are made -/
theorem KS_CL {r : Nat} (hn : yd_n Y ≤ 6) (hr : 20000 ≤ r) : KS r (fun G M rl => CL G M rl ad Y P T tl ea) := fun G M rl G' M' rl' k h => by
  have hx : ∀ j, j < 66 → _ := fun j hj => k (ad j) (h.2.2.1 j hj).1
  have hz : ∀ j, j < 66 → gP G' (ad j) = gP G (ad j) ∧ mI M' (ad j) = mI M (ad j) ∧ mJ M' (ad j) = mJ M (ad j) := fun j hj => by
    have r0 := (h.2.2.1 j hj).2
    exact (hx j hj).2.2.2.2 (by omega) (by omega)
  refine ⟨h.1, Sh_kp h.2.1 (fun j hj => (hz j hj).1) (fun j hj => (hx j hj).2.2.1), fun j hj => ⟨(hx j hj).1, (hx j hj).2.2.2.1.trans (h.2.2.1 j hj).2⟩, fun i hi => ?_, CA_keep hn h.2.2.2.2 (fun j hj => (hz j (by omega)).2.1) (hz 59 (by decide)).2.2⟩
  obtain ⟨a1, a2⟩ := h.2.2.2.1 i hi
  have := hx (38 + 5 + 2 * i) (by omega)
  exact ⟨this.1, this.2.1.trans a2⟩
/-- roles behind the class's constructor -/
def rlN (G : gS) (rl : Nat → Nat) : Nat → Nat := fun x => if x ∈ gL G then rl x else 0
theorem nc_use {q0 : Nat} (h : NC G M q0 G' M') : Kp G M rl G' M' (rlN G rl) ∧ GK G rl G' (rlN G rl) ∧ (∀ x, x ∈ gL G → mI M' x = mI M x) ∧ ∃ ad, ad 0 = q0 ∧ CL G' M' (rlN G rl) ad aY0 aP0 (fun _ => 0) 0 (-1) := by
  obtain ⟨h1, ad, h2, h3, h4, h5, h6, h7⟩ := h
  refine ⟨fun x hx => ?_, fun x hx _ => ?_, fun x hx => (h1 x hx).2.2.2.2.1, ad, h2, h3, h4, fun k hk => ⟨(h5 k hk).1, if_neg (h5 k hk).2⟩, h6, h7⟩
  · obtain ⟨a1, a2, a3, a4, a5, a6⟩ := h1 x hx
    exact ⟨a1, a2, a3, if_pos hx, fun _ => ⟨a4, a5, a6⟩⟩
  · obtain ⟨a1, a2, a3, a4, a5, a6⟩ := h1 x hx
    exact ⟨a1, a2, a3, a4, if_pos hx⟩
theorem law_ok : LawOk := by
  intro D hX
  have hR := zR_b (D := D)
  have hN := zN_b (D := D)
  have hO := zOn_b (D := D)
  unfold n_L_law
  refine b_new (I := fun _ _ _ => True) (r := 20000) (rl := fun _ => 0) (fun _ _ _ _ _ _ _ _ => trivial) trivial ⟨by simp only [bL1]; decide, by simp only [bL2]; decide⟩ (fun q1 G1 M1 rl1 v1 _ hT1 => ?_)
  refine ⟨(1000, 200000), ⟨by rw [uP1, uP1, uP1, bL1]; decide, by rw [uP2, uP2, uP2, bL2]; decide⟩, s_list hX hT1 ⟨Nat.le_refl _, Nat.le_refl _⟩ (fun G2 M2 rl2 o S2 v2 cap2 hM2 hT2 => ?_)⟩
  refine ⟨⟨by rw [uP1, uP1, uP1, uP1, bL1]; decide, by rw [uP2, uP2, uP2, uP2, bL2]; decide⟩, fun q2 hq2 => ⟨⟨by rw [uP1, uP1, uP1, uP1, uP1, bL1]; decide, by rw [uP2, uP2, uP2, uP2, uP2, bL2]; decide⟩, x9_ok hq2 (fun G3 M3 hN3 => ?_)⟩⟩
  obtain ⟨kp, gk, mi, ad, ea0, hC3⟩ := nc_use (rl := rl2) hN3
  have hb := SGbo (D := D) (j := zOn D) (by omega)
  have hM3 := SM_cg (rl' := rlN G2 rl2) hb hM2 gk (fun x hx _ => mi x hx)
  have hT3 := TB_kp hT2 (by decide) kp
  subst ea0
  have hAN := AN_O (D := D) (zOn D)
  have hlen : (txO D (zOn D)).length ≤ 1900 := by
    have := hAN.2
    omega
  refine b_str (r0 := 20000) (I := fun G M rl => CL G M rl ad aY0 aP0 (fun _ => 0) 0 (-1) ∧ SM G M rl o S2 (pzD D (zR D) (zOn D)) (zQ D) (yzD D (zN D) (zPn D))) (KS_and (KS_CL (by decide) (by decide)) (KS_SM hb (by decide))) ⟨hC3, hM3⟩ hT3 20050 ?_ (fun G4 M4 rl4 t w hI4 hp4 => ?_)
  · refine uL_i ?_ ?_
    · rw [uP1, uP1, uP1, uP1, uP1, uP1, bL1]; dsimp only; omega
    · rw [uP2, uP2, uP2, uP2, uP2, uP2, bL2]; dsimp only; omega
  refine ⟨(1, 5), ?_, s_taught hb rfl ⟨Nat.le_refl _, Nat.le_refl _⟩ hI4.1 hI4.2 hp4 (fun G5 M5 rl5 σ T5 ea5 hS hC5 hM5 => ?_)⟩
  · refine uL_i ?_ ?_
    · rw [uP1, uP1, uP1, uP1, uP1, uP1, uP1, bL1]; dsimp only; omega
    · rw [uP2, uP2, uP2, uP2, uP2, uP2, uP2, bL2]; dsimp only; omega
  have hM6 := IS_SM hS hM5
  obtain ⟨hI, hvN⟩ := IS_Y hS
  have en : yd_n (sgY σ) = zN D := hI.2.2.1
  have hP := IS_vP hS
  have hb6 : SGb (sgP σ) (zN D) := ⟨by rw [hS.2.1]; omega, by omega, by rw [hS.2.2.2.1]; omega⟩
  refine i_t rfl (i_cls (c_count hC5.2.1 hI.1 hC5.2.2.2.2 (w := 2) (by decide)) ?_)
  have ec : cntV (sgY σ) (sgP σ) 0 2 = zn (zN D) := by
    show zn (yd_n (sgY σ)) = _
    rw [en]
  rw [ec]
  refine l_45 hX hb6 hI hvN hP (IS_OR hS) (by omega) (by omega) ?_ hC5 hM6 ?_
  · rw [hS.2.2.2.1]
    exact oS_zQ
  · refine uL_i ?_ ?_
    · rw [uP1, uP1, uP1, uP1, uP1, uP1, uP1, uP1, bL1]; dsimp only; omega
    · rw [uP2, uP2, uP2, uP2, uP2, uP2, uP2, uP2, bL2]; dsimp only; omega
end LawS
