/-! the law's loop over time -/
/-- colours added -/
def cnS (c : Nat → Nat) : Nat → Nat
  | 0 => 0
  | v + 1 => cnS c v + cn c v 4096
theorem cn_all {c : Nat → Nat} (hv : ∀ p, c p < 6) : ∀ k : Nat, cn c 0 k + cn c 1 k + cn c 2 k + cn c 3 k + cn c 4 k + cn c 5 k = k := by
  intro k
  induction k with
  | zero => rfl
  | succ k ih =>
    rw [cn, cn, cn, cn, cn, cn]
    have := hv k
    rcases (show c k = 0 ∨ c k = 1 ∨ c k = 2 ∨ c k = 3 ∨ c k = 4 ∨ c k = 5 by omega) with e | e | e | e | e | e <;> simp [e] <;> omega
theorem cnS_6 {c : Nat → Nat} (hv : ∀ p, c p < 6) : cnS c 6 = 4096 := by
  have h := cn_all hv 4096
  show 0 + cn c 0 4096 + cn c 1 4096 + cn c 2 4096 + cn c 3 4096 + cn c 4 4096 + cn c 5 4096 = 4096
  generalize cn c 0 4096 = a0 at *
  generalize cn c 1 4096 = a1 at *
  generalize cn c 2 4096 = a2 at *
  generalize cn c 3 4096 = a3 at *
  generalize cn c 4 4096 = a4 at *
  generalize cn c 5 4096 = a5 at *
  omega
theorem nz_cn {c : Nat → Nat} : ∀ k : Nat, nz c 0 k + cn c 0 k = k := by
  intro k
  induction k with
  | zero => rfl
  | succ k ih =>
    rw [nz, cn, Nat.zero_add]
    by_cases e : c k = 0
    · rw [if_pos e, if_pos e]; omega
    · rw [if_neg e, if_neg e]; omega
theorem wkA_le {a : Nat → aA} {n : Nat} (h : ∀ i, i < n → an_w (a i) < 2) : ∀ k : Nat, k ≤ n → wkA a k ≤ k := by
  intro k
  induction k with
  | zero => exact fun _ => Nat.le_refl 0
  | succ k ih =>
    intro hk
    have h1 := ih (by omega)
    have h2 := h k (by omega)
    show wkA a k + an_w (a k) ≤ k + 1
    omega
/-- roles of new rows -/
def rMs (rl : Nat → Nat) (f : Nat → Nat) : Nat → Nat → Nat
  | 0 => rl
  | k + 1 => rU (rMs rl f k) (f k) (10100 + k)
theorem rMs_ne {rl : Nat → Nat} {f : Nat → Nat} {x : Nat} : ∀ n : Nat, (∀ i, i < n → x ≠ f i) → rMs rl f n x = rl x := by
  intro n
  induction n with
  | zero => exact fun _ => rfl
  | succ n ih =>
    intro h
    rw [rMs, rU_ne (h n (by omega))]
    exact ih (fun i hi => h i (by omega))
theorem rMs_at {rl : Nat → Nat} {f : Nat → Nat} : ∀ n : Nat, (∀ i j : Nat, i < n → j < n → f i = f j → i = j) → ∀ i, i < n → rMs rl f n (f i) = 10100 + i := by
  intro n
  induction n with
  | zero => exact fun _ i hi => absurd hi (Nat.not_lt_zero i)
  | succ n ih =>
    intro h i hi
    rw [rMs]
    by_cases e : i = n
    · subst e; exact rU_eq
    · rw [rU_ne (fun z => e (h i n hi (by omega) z))]
      exact ih (fun i j a b c => h i j (by omega) (by omega) c) i (by omega)
section Mn
variable {G : gS} {M : mS} {rl : Nat → Nat} {x n r : Nat} {f : Nat → Nat}
theorem mem_f {y : Nat} : y ∈ (List.range n).map f ↔ ∃ i, i < n ∧ f i = y := by
  rw [List.mem_map]
  constructor
  · rintro ⟨i, h1, h2⟩; exact ⟨i, List.mem_range.mp h1, h2⟩
  · rintro ⟨i, h1, h2⟩; exact ⟨i, List.mem_range.mpr h1, h2⟩
theorem mn_old (hx : x ∉ gL G) (hf : ∀ i : Nat, i < n → f i ∉ gL G ∧ f i ≠ x) {y : Nat} (hy : y ∈ gL G) : y ∈ gL (gMn G x n r f) ∧ gK (gMn G x n r f) y = gK G y ∧ gN (gMn G x n r f) y = gN G y ∧ gP (gMn G x n r f) y = gP G y ∧ mI (wMn M x n f) y = mI M y ∧ mJ (wMn M x n f) y = mJ M y ∧ rU (rMs rl f n) x 10000 y = rl y := by
  have n1 : y ≠ x := mem_ne hy hx
  have n2 : y ∉ (List.range n).map f := fun h => by
    obtain ⟨i, hi, e⟩ := mem_f.mp h
    exact (hf i hi).1 (e ▸ hy)
  refine ⟨List.mem_append_left _ (List.mem_append_left _ hy), ?_, ?_, ?_, ?_, ?_, ?_⟩
  · exact (vr_up_ne n2).trans (up_ne n1)
  · exact (vr_up_ne n2).trans (up_ne n1)
  · exact (vr_up_ne n2).trans (up_ne n1)
  · exact (vr_up_ne n2).trans (up_ne n1)
  · exact (vr_up_ne n2).trans (up_ne n1)
  · rw [rU_ne n1]
    exact rMs_ne n (fun i hi e => (hf i hi).1 (e ▸ hy))
theorem mn_x (hf : ∀ i : Nat, i < n → f i ∉ gL G ∧ f i ≠ x) : x ∈ gL (gMn G x n r f) ∧ gN (gMn G x n r f) x = n ∧ ∀ i, i < n → gP (gMn G x n r f) x i = some (f i) := by
  have n2 : x ∉ (List.range n).map f := fun h => by
    obtain ⟨i, hi, e⟩ := mem_f.mp h
    exact (hf i hi).2 e
  refine ⟨List.mem_append_left _ (List.mem_append_right _ (List.mem_singleton.mpr rfl)), (vr_up_ne n2).trans up_eq, fun i hi => ?_⟩
  have e : gP (gMn G x n r f) x = fun i => if i < n then some (f i) else none := (vr_up_ne n2).trans up_eq
  rw [e]
  exact if_pos hi
theorem mn_f {i : Nat} (hi : i < n) : f i ∈ gL (gMn G x n r f) ∧ gN (gMn G x n r f) (f i) = r := ⟨List.mem_append_right _ (mem_f.mpr ⟨i, hi, rfl⟩), vr_up_in (mem_f.mpr ⟨i, hi, rfl⟩)⟩
theorem Kp_mn (hx : x ∉ gL G) (hf : ∀ i : Nat, i < n → f i ∉ gL G ∧ f i ≠ x) : Kp G M rl (gMn G x n r f) (wMn M x n f) (rU (rMs rl f n) x 10000) := fun y hy => by
  obtain ⟨a1, a2, a3, a4, a5, a6, a7⟩ := mn_old (M := M) (rl := rl) (r := r) hx hf hy
  exact ⟨a1, a2, a3, a7, fun _ => ⟨a4, a5, a6⟩⟩
theorem GK_mn (hx : x ∉ gL G) (hf : ∀ i : Nat, i < n → f i ∉ gL G ∧ f i ≠ x) : GK G rl (gMn G x n r f) (rU (rMs rl f n) x 10000) := fun y hy _ => by
  obtain ⟨a1, a2, a3, a4, a5, a6, a7⟩ := mn_old (M := M00) (rl := rl) (r := r) hx hf hy
  exact ⟨a1, a2, a3, a4, a7⟩
theorem LT_mn (hf : ∀ i : Nat, i < n → f i ∉ gL G ∧ f i ≠ x) (hj : ∀ i j : Nat, i < n → j < n → f i = f j → i = j) {y : Nat} (hy : y ∉ gL (gMn G x n 9 f)) : LT (gNw (gMn G x n 9 f) y 12 n) (rU (rU (rMs rl f n) x 10000) y 10001) x y f n := by
  obtain ⟨x1, x2, x3⟩ := mn_x (G := G) (x := x) (n := n) (r := 9) (f := f) hf
  have nxy : x ≠ y := mem_ne x1 hy
  refine ⟨⟨List.mem_append_left _ x1, by rw [rU_ne nxy, rU_eq], (up_ne nxy).trans x2⟩, ⟨gL_nw, rU_eq, gN_nw⟩, fun i hi => ?_⟩
  obtain ⟨f1, f2⟩ := mn_f (G := G) (x := x) (n := n) (r := 9) (f := f) hi
  have nfy : f i ≠ y := mem_ne f1 hy
  have e : gP (gNw (gMn G x n 9 f) y 12 n) x = gP (gMn G x n 9 f) x := up_ne nxy
  refine ⟨by rw [e]; exact x3 i hi, List.mem_append_left _ f1, ?_, (up_ne nfy).trans f2⟩
  rw [rU_ne nfy, rU_ne (hf i hi).2]
  exact rMs_at n hj i hi
end Mn
theorem uL_i {x y : uS} (h1 : x.1 ≤ y.1) (h2 : x.2 ≤ y.2) : uL x y := ⟨h1, h2⟩
theorem uP1 {x y : uS} : (uP x y).1 = x.1 + y.1 := rfl
theorem uP2 {x y : uS} : (uP x y).2 = x.2 + y.2 := rfl
theorem bL1 : bL.1 = 600086 := rfl
theorem bL2 : bL.2 = 7301441 := rfl
theorem arA {b n k1 k2 K L : Nat} (h5 : n ≤ 5) (hK : k1 + k2 + 95 ≤ K) (B : b + K ≤ L) : b + (n + n * 9) + n + k1 + (8 * n + k2) ≤ L := by omega
theorem arB {b n k1 k2 K L : Nat} (h5 : n ≤ 5) (hK : k1 + k2 + 17 ≤ K) (B : b + K ≤ L) : b + (1 + n) + 1 + k1 + (2 * n + k2) ≤ L := by omega
section Time
variable {G G' : gS} {M M' : mS} {rl rl' : Nat → Nat} {ad : Nat → Nat} {o : Nat} {S : sA} {P : aP} {q : Nat → Nat → Nat} {Y : aY} {T : Nat → Nat} {ea : Int32} {u : uS} {n N : Nat} {D : va_G} {post : gS → mS → Int32 → Prop}
theorem l_100 (hb : SGb P (yd_n Y)) (hI : IV P (yd_n Y) N Y) (hN : N < 700) (hvN : vN N Y) (hP : vP (yd_n Y) P) (hO : OR P q (yd_n Y)) (hn5 : yd_n Y ≤ 5) (hos : uL (oS q (pg_o P)) (95, 5760)) (hC : CL G M rl ad Y P T 0 ea) (hM : SM G M rl o S P q Y) {kb45 : uS → gS → mS → Nat → Nat → Int32 → Int32 → Prop} {v5 : Int32} (hB : uL (uP u (187, 11168)) bL) (hk : ∀ u' G' M' rl' S', uL u' (uP u (187, 11168)) → CL G' M' rl' ad (aWash 40 63 (aStep P Y)) P T 0 ea → SM G' M' rl' o S' P q (aWash 40 63 (aStep P Y)) → kb45 u' G' M' o (ad 0) (zn (yd_n Y)) (v5 + 1)) : nl_L_law_100 D kb45 post u G M o (ad 0) (zn (yd_n Y)) v5 (dgAll Y P 0) (0 : Int32) (0 : Int32) (0 : Int32) (0 : Int32) := by
  have i1 := hI.1
  have hn6 : yd_n Y ≤ 6 := i1.2.1
  have hv : vY 100000 Y := vY_mono i1 (by omega)
  have hle : csum (yd_c Y) 6 ≤ 20480 := by
    have := totC_le hv.1 4096
    rw [tot_csum hv.1] at this
    omega
  have hc : CA ad M Y P T 0 ea := hC.2.2.2.2
  have hdk := dk_le (c := yd_c Y)
  refine ⟨fun m u2 G2 M2 w2 w3 w4 w5 w7 w9 w10 w11 w12 => u2 = u ∧ G2 = G ∧ M2 = M ∧ w2 = o ∧ w3 = ad 0 ∧ w4 = zn (yd_n Y) ∧ w5 = v5 ∧ w7 = dgAll Y P 0 ∧ w11 = 0 ∧ ∃ v, m + v = 6 ∧ w9 = zn (cnS (yd_c Y) v) ∧ w10 = zn (csum (yd_c Y) v) ∧ w12 = zn v, 6, ⟨rfl, rfl, rfl, rfl, rfl, rfl, rfl, rfl, rfl, 0, rfl, rfl, rfl, rfl⟩, ?_⟩
  rintro m u2 G2 M2 w2 w3 w4 w5 w7 w9 w10 w11 w12 ⟨rfl, rfl, rfl, rfl, rfl, rfl, rfl, rfl, rfl, v, hv6, rfl, rfl, rfl⟩
  unfold nb_L_law_100
  by_cases e : v = 6
  · subst e
    refine i_t ((zn_le (a := 6) (b := 6) (by decide) (by decide)).mpr (by decide)) ?_
    refine ⟨fun m u3 G3 M3 y2 y3 y4 y5 y7 y9 y10 y11 y12 => u3 = u2 ∧ G3 = G2 ∧ M3 = M2 ∧ y2 = w2 ∧ y3 = ad 0 ∧ y4 = zn (yd_n Y) ∧ y5 = w5 ∧ y7 = dgAll Y P 0 ∧ y9 = zn (cnS (yd_c Y) 6) ∧ y10 = zn (csum (yd_c Y) 6) ∧ ∃ r, m + r = 64 ∧ y11 = zn (nz (yd_c Y) 0 (64 * r)) ∧ y12 = zn r, 64, ⟨rfl, rfl, rfl, rfl, rfl, rfl, rfl, rfl, rfl, rfl, 0, rfl, rfl, rfl⟩, ?_⟩
    rintro m u3 G3 M3 y2 y3 y4 y5 y7 y9 y10 y11 y12 ⟨rfl, rfl, rfl, rfl, rfl, rfl, rfl, rfl, rfl, rfl, r, hr, rfl, rfl⟩
    unfold nb_L_law_141
    by_cases e2 : r = 64
    · subst e2
      have hw : ∀ i, i < yd_n Y → an_w (yd_a Y i) < 2 := fun i hi => (hv.2.2 i hi).1.2.2.2.2.1
      have hwk := wkA_le hw (yd_n Y) (Nat.le_refl _)
      rw [cnS_6 hv.1]
      refine i_t ((zn_le (a := 64) (b := 64) (by decide) (by decide)).mpr (by decide)) (i_t rfl (i_cls (c_count hC.2.1 hv hc (w := 5) (by decide)) (i_t rfl (i_cls (c_count hC.2.1 hv hc (w := 4) (by decide)) (i_t rfl (i_cls (p_colour hC.2.1 hc (c := 0) (by decide)) (i_t ?_ (i_cls (p_mean hC.2.1 hv hc) (i_ck (nan_le hle) (i_t ?_ (i_cls (c_count hC.2.1 hv hc (w := 6) (by decide)) (i_t ?_ ?_))))))))))))
      · have h1 := nz_cn (c := yd_c Y) 4096
        show zn (nz (yd_c Y) 0 4096) = zn 4096 - zn (cn (yd_c Y) 0 4096)
        rw [zn_sub (by omega), show 4096 - cn (yd_c Y) 0 4096 = nz (yd_c Y) 0 4096 by omega]
      · rw [nan_eq hle]
        rfl
      · show zn (wkA (yd_a Y) (yd_n Y)) ≤ zn (yd_n Y)
        rw [zn_le (by omega) (by omega)]
        exact hwk
      · have en : (zn (yd_n Y)).toNatClampNeg = yd_n Y := zn_nat (by omega)
        have e9 : Int32.toNatClampNeg (9 : Int32) = 9 := by decide
        have hB0 := hB
        obtain ⟨B1, B2⟩ := hB
        simp only [uP] at B1 B2
        unfold q_mn
        rw [en, e9]
        refine ⟨⟨zn_nn (by omega), by decide, by omega, by decide⟩, ?_, fun x f hx hj hf => ?_⟩
        · refine uL_i ?_ ?_ <;> simp only [uP1, uP2, bL1, bL2] <;> omega
        · have hM1 : SM (gMn G3 x (yd_n Y) 9 f) (wMn M3 x (yd_n Y) f) (rU (rMs rl f (yd_n Y)) x 10000) y2 S P q Y := SM_cg hb hM (GK_mn hx hf) (fun z hz _ => (mn_old (M := M3) (rl := rl) (r := 9) hx hf hz).2.2.2.2.1)
          have hC1 := CL_kp hn6 hC (Kp_mn (M := M3) (r := 9) hx hf)
          refine i_na (N := yd_n Y) rfl (by omega) (by refine uL_i ?_ ?_ <;> simp only [uP1, uP2, bL1, bL2] <;> omega) (fun y hy => ?_)
          have hM2 := SM_nw (r := 10001) (k := 12) (n := yd_n Y) hb hM1 hy
          have hC2 := CL_kp hn6 hC1 (Kp_nw (k := 12) (n := yd_n Y) (r := 10001) hy)
          have hT2 := LT_mn (rl := rl) hf hj hy
          clear hdk hle hwk
          refine l_257 hb hI hN hvN hP hO hn5 hos hC2 hM2 hT2 (uL_i (arB (b := u3.1) (n := yd_n Y) (k1 := 105) (k2 := 24) (K := 187) (L := bL.1) hn5 (by decide) hB0.1) (arA (b := u3.2) (n := yd_n Y) (k1 := 9300) (k2 := 1536) (K := 11168) (L := bL.2) hn5 (by decide) hB0.2)) (fun G' M' rl' S' c s => hk _ G' M' rl' S' (uL_i (arB (b := u3.1) (n := yd_n Y) (k1 := 105) (k2 := 24) (K := 187) (L := u3.1 + 187) hn5 (by decide) (Nat.le_refl _)) (arA (b := u3.2) (n := yd_n Y) (k1 := 9300) (k2 := 1536) (K := 11168) (L := u3.2 + 11168) hn5 (by decide) (Nat.le_refl _))) c s)
    · have hr2 : r < 64 := by omega
      refine i_f (fun z => e2 (by have := (zn_le (a := 64) (b := r) (by decide) (by omega)).mp z; omega)) (i_cls (p_row hC.2.1 hc hr2) (i_bd (i_bd ⟨m - 1, by omega, rfl, rfl, rfl, rfl, rfl, rfl, rfl, rfl, rfl, rfl, r + 1, by omega, ?_, zn_one r⟩)))
      rw [nz_row]
      exact zn_add _ _
  · have hv2 : v < 6 := by omega
    refine i_f (fun z => e (by have := (zn_le (a := 6) (b := v) (by decide) (by omega)).mp z; omega)) (i_cls (p_colour hC.2.1 hc hv2) (i_bd (i_cls (p_colour hC.2.1 hc hv2) (i_bd (i_bd ⟨m - 1, by omega, rfl, rfl, rfl, rfl, rfl, rfl, rfl, rfl, rfl, v + 1, by omega, zn_add _ _, ?_, zn_one v⟩)))))
    rw [zn_mul, zn_add]
    rfl
theorem s_cell {b : uS} (hX : xL D ≤ 260) {k : Nat} (hk : k < 1000) (H : ∀ v, post G M v) : n_L_cell D b G M (zn k) post := by
  unfold n_L_cell nb_L_cell_18
  refine i_if (fun _ => H _) (fun z => i_ix (zn_in ?_ (by omega)) (H _))
  have : ¬ xL D ≤ k := fun z2 => z ((zn_le (by omega) (by omega)).mpr z2)
  omega
theorem l_45 (hX : xL D ≤ 260) (hb : SGb P n) (hI : IV P n 0 Y) (hvN : vN 0 Y) (hP : vP n P) (hO : OR P q n) (h1n : 0 < n) (hn5 : n ≤ 5) (hos : uL (oS q (pg_o P)) (95, 5760)) (hC : CL G M rl ad Y P T 0 ea) (hM : SM G M rl o S P q Y) (hB : uL (uP u (65012, 5700127)) bL) : nl_L_law_45 D (fun _ _ _ => True) u G M o (ad 0) (zn n) (0 : Int32) := by
  obtain ⟨B1, B2⟩ := hB
  simp only [uP] at B1 B2
  refine ⟨fun m u2 G2 M2 w2 w3 w4 w5 => w2 = o ∧ w3 = ad 0 ∧ w4 = zn n ∧ ∃ t rl2 S2 Y2, m + t = 10 ∧ w5 = zn t ∧ uL u2 (uP u (6500 * t, 570000 * t)) ∧ CL G2 M2 rl2 ad Y2 P T 0 ea ∧ SM G2 M2 rl2 o S2 P q Y2 ∧ IV P n (62 * t) Y2 ∧ vN (62 * t) Y2, 10, ⟨rfl, rfl, rfl, 0, rl, S, Y, rfl, rfl, ⟨Nat.le_refl _, Nat.le_refl _⟩, hC, hM, hI, hvN⟩, ?_⟩
  rintro m u2 G2 M2 w2 w3 w4 w5 ⟨rfl, rfl, rfl, t, rl2, S2, Y2, hm, rfl, ⟨U1, U2⟩, hC2, hM2, hI2, hN2⟩
  simp only [uP] at U1 U2
  have en : yd_n Y2 = n := hI2.2.2.1
  subst en
  unfold nb_L_law_45
  by_cases e : t = 10
  · subst e
    refine i_t ((zn_le (a := 10) (b := 10) (by decide) (by decide)).mpr (by decide)) ⟨(12, 127), ?_, s_isSame hb hC2 hM2 (vY_mono hI2.1 (by omega)) ⟨Nat.le_refl _, Nat.le_refl _⟩ (fun G' M' => i_ck rfl trivial)⟩
    refine uL_i ?_ ?_ <;> simp only [uP1, uP2, bL1, bL2] <;> omega
  · have hu2 : uL u2 bL := by refine uL_i ?_ ?_ <;> simp only [bL1, bL2] <;> omega
    refine i_f (fun z => e (by have := (zn_le (a := 10) (b := t) (by decide) (by omega)).mp z; omega)) (i_ca0 hu2 ?_)
    rw [show zn t + (2 : Int32) = zn (t + 2) from zn_add t 2]
    refine s_cell hX (by omega) (fun cv => i_bd ⟨(6313, 558832), ?_, s_act hb hC2 hM2 hI2.1 (by omega) h1n hn5 hos (by have := hI2.2.2.2.1.1; omega) hI2.2.1 hP hO ⟨Nat.le_refl _, Nat.le_refl _⟩ (fun G3 M3 rl3 S3 Y3 hC3 hM3 ha => ?_)⟩)
    · refine uL_i ?_ ?_ <;> simp only [uP1, uP2, bL1, bL2] <;> omega
    · have hI3 := IV_act hP hI2 ha
      have hN3 := vN_act hP hN2 ha
      have e3 : yd_n Y3 = yd_n Y2 := hI3.2.2.1
      refine i_f (by decide) (i_cl (p_digest hC3.1 hC3.2.1 hI3.1 (by omega) (by rw [e3]; exact hP) hC3.2.2.2.2) (fun M4 r hr => ?_))
      obtain ⟨rfl, g1, g2⟩ := hr
      have hC4 := CL_ca hC3 g1
      have hM4 := SM_fr (by rw [e3]; exact hb) hC3 hM3 g2
      rw [← e3]
      have hI4 : IV P (yd_n Y3) (62 * t + 60) Y3 := by rw [e3]; exact hI3
      refine l_100 (by rw [e3]; exact hb) hI4 (by omega) hN3 (by rw [e3]; exact hP) (by rw [e3]; exact hO) (by rw [e3]; exact hn5) hos hC4 hM4 ?_ (fun u5 G5 M5 rl5 S5 hu5 hC5 hM5 => ?_)
      · refine uL_i ?_ ?_ <;> simp only [uP1, uP2, bL1, bL2] <;> omega
      · have hI5 := IV_wash (f := 40) (t := 63) (by decide) (IV_step (by rw [e3]; exact hP) hI4)
        have hN5 : vN (62 * t + 60 + 1) (aWash 40 63 (aStep P Y3)) := vN_step (by rw [e3]; exact hP) hN3
        obtain ⟨V1, V2⟩ := hu5
        simp only [uP] at V1 V2
        refine ⟨m - 1, by omega, rfl, rfl, rfl, t + 1, rl5, S5, aWash 40 63 (aStep P Y3), by omega, zn_one t, ?_, hC5, hM5, ?_, vN_mono hN5 (by omega)⟩
        · refine uL_i (Nat.le_trans V1 ?_) (Nat.le_trans V2 ?_)
          · rw [uP1]
            dsimp only
            rw [Nat.mul_succ, ← Nat.add_assoc, Nat.add_assoc u2.1]
            exact Nat.add_le_add U1 (by decide)
          · rw [uP2]
            dsimp only
            rw [Nat.mul_succ, ← Nat.add_assoc, Nat.add_assoc u2.2]
            exact Nat.add_le_add U2 (by decide)
        · exact IV_mono hI5 (by omega)
end Time
