/-! an order's test, told -/
section TestT
variable {I : gS → mS → (Nat → Nat) → Prop} {D : va_G} {G : gS} {M : mS} {rl : Nat → Nat} {r a v cap c d x : Nat} {L : List Nat} {b u : uS} {w : Nat → Nat}
theorem b_new (hst : KS r I) (hI : I G M rl) (hB : u.1 + 2 ≤ b.1 ∧ u.2 + 20 ≤ b.2) {K : Nat → uS → gS → mS → Prop} (hk : ∀ q G' M' rl' v', I G' M' rl' → TB G' M' rl' r q v' 16 [] → K q (uP (uP u (1, 4)) (1, 16)) G' M') : q_nw b u G M 11 0 4 (fun q u1 G1 M1 => q_ca b u1 (fun w => n_J4_init_da8c8 w G1 M1 q) (fun u2 G2 M2 _ => K q u2 G2 M2)) := by
  obtain ⟨B1, B2⟩ := hB
  refine ⟨⟨by show u.1 + 1 ≤ b.1; omega, by show u.2 + 4 ≤ b.2; omega⟩, fun q hq => ⟨(1, 16), ⟨by show u.1 + 1 + 1 ≤ b.1; omega, by show u.2 + 4 + 16 ≤ b.2; omega⟩, ?_⟩⟩
  have h1 := hst _ _ _ _ _ _ (Kt_nw (r := r) (M := M) (rl := rl) (k := 11) (n := 0) (s := r) hq) hI
  exact j_init (rl := rU rl q r) (a := q) gL_nw rU_eq (wZ_eq (M := M) (q := q) (k := 3)) ⟨Nat.le_refl _, Nat.le_refl _⟩ (fun G' M' rl' v' k1 h2 => hk q G' M' rl' v' (hst _ _ _ _ _ _ k1 h1) h2)
theorem b_str {r0 : Nat} (hst : KS r0 I) (hI : I G M rl) (h : TB G M rl r a v cap L) (s : Nat) (hB : uL (uP u (2, 4 + L.length)) b) {K : uS → gS → mS → Nat → Prop} (hk : ∀ G' M' rl' q w, I G' M' rl' → PS G' M' rl' s q w L → K (uP u (2, 4 + L.length)) G' M' q) : q_ca b u (fun v => n_J4_toString_0e30d v G M a) K := ⟨(2, 4 + L.length), hB, j_str h s ⟨Nat.le_refl _, Nat.le_refl _⟩ (fun G' M' rl' q w k1 h1 => hk G' M' rl' q w (hst _ _ _ _ _ _ (k1 r0) hI) h1)⟩
theorem UB_0 {c d : Nat} {u : uS} (h1 : u.1 ≤ c) (h2 : u.2 ≤ d) : UB (c + 2) d (uP (uP u (1, 4)) (1, 16)) 16 ([] : List Nat).length := ⟨by show u.1 + 1 + 1 ≤ c + 2; omega, by show u.2 + 4 + 16 ≤ d + 2 * 16; omega, by decide, by decide, Nat.zero_le _⟩
theorem UB_en {c d cap len : Nat} {u b : uS} (h : UB c d u cap len) (h1 : c + 2 ≤ b.1) (h2 : d + 200 * c + 40 ≤ b.2) : uL (uP u (2, 4 + len)) b := by
  obtain ⟨g1, g2, g3, g4, g5⟩ := h
  exact ⟨by show u.1 + 2 ≤ b.1; omega, by show u.2 + (4 + len) ≤ b.2; omega⟩
theorem t_test (hst : KS 20010 I) (hI : I G M rl) (hTR : ∀ G M rl, I G M rl → TR G M rl x 6 6 w) (hw : w 3 < 5 ∧ w 4 < 100 ∧ w 5 < 100) (hB : 20 ≤ b.1 ∧ 3000 ≤ b.2) {post : gS → mS → Nat → Prop} (hk : ∀ G' M' rl' q z, I G' M' rl' → PS G' M' rl' 20020 q z (txS w) → post G' M' q) : n_L_test D b G M x post := by
  obtain ⟨w3, w4, w5⟩ := hw
  obtain ⟨B1, B2⟩ := hB
  have v3 : ∀ {G M rl}, I G M rl → mI M x 3 = zn (w 3) := fun h => (hTR _ _ _ h).2 3 (by decide)
  have v4 : ∀ {G M rl}, I G M rl → mI M x 4 = zn (w 4) := fun h => (hTR _ _ _ h).2 4 (by decide)
  have v5 : ∀ {G M rl}, I G M rl → mI M x 5 = zn (w 5) := fun h => (hTR _ _ _ h).2 5 (by decide)
  have i3 : ∀ {G M rl}, I G M rl → vp_in (3 : Int32) (gN G x) := fun h => by rw [(hTR _ _ _ h).1.2.2.2]; exact vi_3 (by decide) (by decide)
  have i4 : ∀ {G M rl}, I G M rl → vp_in (4 : Int32) (gN G x) := fun h => by rw [(hTR _ _ _ h).1.2.2.2]; exact vi_4 (by decide) (by decide)
  have i5 : ∀ {G M rl}, I G M rl → vp_in (5 : Int32) (gN G x) := fun h => by rw [(hTR _ _ _ h).1.2.2.2]; exact vi_5 (by decide) (by decide)
  have hlit : ∀ {k l : Nat}, k < 1000 → l < 1000 → ((zn k = zn l) ↔ k = l) := fun a c => zn_inj (by omega) (by omega)
  unfold n_L_test
  rw [nat_3, nat_4, nat_5, v3 hI]
  refine i_ix (i3 hI) (i_if (fun k0 => ?_) (fun k0 => i_if (fun k1 => ?_) (fun k1 => i_if (fun k2 => ?_) (fun k2 => i_if (fun k3 => ?_) (fun k3 => ?_)))))
  · have e0 : w 3 = 0 := (hlit (l := 0) (by omega) (by decide)).mp k0
    have eS : txS w = ([] ++ sTx 8) ++ dgL (w 4) := by unfold txS; rw [if_pos e0]
    rw [eS] at hk
    refine b_new hst hI ⟨by show 0 + 2 ≤ b.1; omega, by show 0 + 20 ≤ b.2; omega⟩ (fun q G1 M1 rl1 z1 I1 T1 => ?_)
    have U1 := UB_0 (c := 0) (d := 0) (u := (0, 0)) (Nat.le_refl _) (Nat.le_refl _)
    refine a_lit hst I1 T1 U1 (n := 8) rfl (by decide) (by decide) ⟨by omega, by omega⟩ (by omega) (fun u2 G2 M2 rl2 z2 cap2 I2 T2 U2 => i_ix (i4 I2) ?_)
    refine a_int hst I2 T2 U2 (m := w 4) (v4 I2) w4 ⟨by omega, by omega⟩ (by omega) (fun u3 G3 M3 rl3 z3 cap3 I3 T3 U3 => ?_)
    exact b_str hst I3 T3 20020 (UB_en U3 (by omega) (by omega)) (fun G' M' rl' q w I' h' => hk G' M' rl' q w I' h')
  · have e0 : ¬ w 3 = 0 := fun z => k0 (by rw [z]; rfl)
    have e1 : w 3 = 1 := (hlit (l := 1) (by omega) (by decide)).mp k1
    have eS : txS w = ((((([] ++ sTx 9) ++ dgL (w 4)) ++ sTx 10) ++ dgL (w 4)) ++ sTx 11) ++ dgL (w 5) := by unfold txS; rw [if_neg e0, if_pos e1]
    rw [eS] at hk
    refine b_new hst hI ⟨by show 0 + 2 ≤ b.1; omega, by show 0 + 20 ≤ b.2; omega⟩ (fun q G1 M1 rl1 z1 I1 T1 => ?_)
    have U1 := UB_0 (c := 0) (d := 0) (u := (0, 0)) (Nat.le_refl _) (Nat.le_refl _)
    refine a_lit hst I1 T1 U1 (n := 9) rfl (by decide) (by decide) ⟨by omega, by omega⟩ (by omega) (fun u2 G2 M2 rl2 z2 cap2 I2 T2 U2 => i_ix (i4 I2) ?_)
    refine a_int hst I2 T2 U2 (m := w 4) (v4 I2) w4 ⟨by omega, by omega⟩ (by omega) (fun u3 G3 M3 rl3 z3 cap3 I3 T3 U3 => ?_)
    refine a_lit hst I3 T3 U3 (n := 10) rfl (by decide) (by decide) ⟨by omega, by omega⟩ (by omega) (fun u4 G4 M4 rl4 z4 cap4 I4 T4 U4 => i_ix (i4 I4) ?_)
    refine a_int hst I4 T4 U4 (m := w 4) (v4 I4) w4 ⟨by omega, by omega⟩ (by omega) (fun u5 G5 M5 rl5 z5 cap5 I5 T5 U5 => ?_)
    refine a_lit hst I5 T5 U5 (n := 11) rfl (by decide) (by decide) ⟨by omega, by omega⟩ (by omega) (fun u6 G6 M6 rl6 z6 cap6 I6 T6 U6 => i_ix (i5 I6) ?_)
    refine a_int hst I6 T6 U6 (m := w 5) (v5 I6) w5 ⟨by omega, by omega⟩ (by omega) (fun u7 G7 M7 rl7 z7 cap7 I7 T7 U7 => ?_)
    exact b_str hst I7 T7 20020 (UB_en U7 (by omega) (by omega)) (fun G' M' rl' q w I' h' => hk G' M' rl' q w I' h')
  · have e0 : ¬ w 3 = 0 := fun z => k0 (by rw [z]; rfl)
    have e1 : ¬ w 3 = 1 := fun z => k1 (by rw [z]; rfl)
    have e2 : w 3 = 2 := (hlit (l := 2) (by omega) (by decide)).mp k2
    have eS : txS w = ((((([] ++ sTx 12) ++ dgL (w 4)) ++ sTx 13) ++ dgL (w 5)) ++ sTx 14) ++ dgL (w 4) := by unfold txS; rw [if_neg e0, if_neg e1, if_pos e2]
    rw [eS] at hk
    refine b_new hst hI ⟨by show 0 + 2 ≤ b.1; omega, by show 0 + 20 ≤ b.2; omega⟩ (fun q G1 M1 rl1 z1 I1 T1 => ?_)
    have U1 := UB_0 (c := 0) (d := 0) (u := (0, 0)) (Nat.le_refl _) (Nat.le_refl _)
    refine a_lit hst I1 T1 U1 (n := 12) rfl (by decide) (by decide) ⟨by omega, by omega⟩ (by omega) (fun u2 G2 M2 rl2 z2 cap2 I2 T2 U2 => i_ix (i4 I2) ?_)
    refine a_int hst I2 T2 U2 (m := w 4) (v4 I2) w4 ⟨by omega, by omega⟩ (by omega) (fun u3 G3 M3 rl3 z3 cap3 I3 T3 U3 => ?_)
    refine a_lit hst I3 T3 U3 (n := 13) rfl (by decide) (by decide) ⟨by omega, by omega⟩ (by omega) (fun u4 G4 M4 rl4 z4 cap4 I4 T4 U4 => i_ix (i5 I4) ?_)
    refine a_int hst I4 T4 U4 (m := w 5) (v5 I4) w5 ⟨by omega, by omega⟩ (by omega) (fun u5 G5 M5 rl5 z5 cap5 I5 T5 U5 => ?_)
    refine a_lit hst I5 T5 U5 (n := 14) rfl (by decide) (by decide) ⟨by omega, by omega⟩ (by omega) (fun u6 G6 M6 rl6 z6 cap6 I6 T6 U6 => i_ix (i4 I6) ?_)
    refine a_int hst I6 T6 U6 (m := w 4) (v4 I6) w4 ⟨by omega, by omega⟩ (by omega) (fun u7 G7 M7 rl7 z7 cap7 I7 T7 U7 => ?_)
    exact b_str hst I7 T7 20020 (UB_en U7 (by omega) (by omega)) (fun G' M' rl' q w I' h' => hk G' M' rl' q w I' h')
  · have e0 : ¬ w 3 = 0 := fun z => k0 (by rw [z]; rfl)
    have e1 : ¬ w 3 = 1 := fun z => k1 (by rw [z]; rfl)
    have e2 : ¬ w 3 = 2 := fun z => k2 (by rw [z]; rfl)
    have e3 : w 3 = 3 := (hlit (l := 3) (by omega) (by decide)).mp k3
    have eS : txS w = ((([] ++ sTx 15) ++ dgL (w 4)) ++ sTx 16) ++ dgL (w 4) := by unfold txS; rw [if_neg e0, if_neg e1, if_neg e2, if_pos e3]
    rw [eS] at hk
    refine b_new hst hI ⟨by show 0 + 2 ≤ b.1; omega, by show 0 + 20 ≤ b.2; omega⟩ (fun q G1 M1 rl1 z1 I1 T1 => ?_)
    have U1 := UB_0 (c := 0) (d := 0) (u := (0, 0)) (Nat.le_refl _) (Nat.le_refl _)
    refine a_lit hst I1 T1 U1 (n := 15) rfl (by decide) (by decide) ⟨by omega, by omega⟩ (by omega) (fun u2 G2 M2 rl2 z2 cap2 I2 T2 U2 => i_ix (i4 I2) ?_)
    refine a_int hst I2 T2 U2 (m := w 4) (v4 I2) w4 ⟨by omega, by omega⟩ (by omega) (fun u3 G3 M3 rl3 z3 cap3 I3 T3 U3 => ?_)
    refine a_lit hst I3 T3 U3 (n := 16) rfl (by decide) (by decide) ⟨by omega, by omega⟩ (by omega) (fun u4 G4 M4 rl4 z4 cap4 I4 T4 U4 => i_ix (i4 I4) ?_)
    refine a_int hst I4 T4 U4 (m := w 4) (v4 I4) w4 ⟨by omega, by omega⟩ (by omega) (fun u5 G5 M5 rl5 z5 cap5 I5 T5 U5 => ?_)
    exact b_str hst I5 T5 20020 (UB_en U5 (by omega) (by omega)) (fun G' M' rl' q w I' h' => hk G' M' rl' q w I' h')
  · have e0 : ¬ w 3 = 0 := fun z => k0 (by rw [z]; rfl)
    have e1 : ¬ w 3 = 1 := fun z => k1 (by rw [z]; rfl)
    have e2 : ¬ w 3 = 2 := fun z => k2 (by rw [z]; rfl)
    have e3 : ¬ w 3 = 3 := fun z => k3 (by rw [z]; rfl)
    have eS : txS w = (((([] ++ sTx 17) ++ dgL (w 4)) ++ sTx 18) ++ dgL (w 5)) ++ sTx 19 := by unfold txS; rw [if_neg e0, if_neg e1, if_neg e2, if_neg e3]
    rw [eS] at hk
    refine b_new hst hI ⟨by show 0 + 2 ≤ b.1; omega, by show 0 + 20 ≤ b.2; omega⟩ (fun q G1 M1 rl1 z1 I1 T1 => ?_)
    have U1 := UB_0 (c := 0) (d := 0) (u := (0, 0)) (Nat.le_refl _) (Nat.le_refl _)
    refine a_lit hst I1 T1 U1 (n := 17) rfl (by decide) (by decide) ⟨by omega, by omega⟩ (by omega) (fun u2 G2 M2 rl2 z2 cap2 I2 T2 U2 => i_ix (i4 I2) ?_)
    refine a_int hst I2 T2 U2 (m := w 4) (v4 I2) w4 ⟨by omega, by omega⟩ (by omega) (fun u3 G3 M3 rl3 z3 cap3 I3 T3 U3 => ?_)
    refine a_lit hst I3 T3 U3 (n := 18) rfl (by decide) (by decide) ⟨by omega, by omega⟩ (by omega) (fun u4 G4 M4 rl4 z4 cap4 I4 T4 U4 => i_ix (i5 I4) ?_)
    refine a_int hst I4 T4 U4 (m := w 5) (v5 I4) w5 ⟨by omega, by omega⟩ (by omega) (fun u5 G5 M5 rl5 z5 cap5 I5 T5 U5 => ?_)
    refine a_lit hst I5 T5 U5 (n := 19) rfl (by decide) (by decide) ⟨by omega, by omega⟩ (by omega) (fun u6 G6 M6 rl6 z6 cap6 I6 T6 U6 => ?_)
    exact b_str hst I6 T6 20020 (UB_en U6 (by omega) (by omega)) (fun G' M' rl' q w I' h' => hk G' M' rl' q w I' h')
end TestT
