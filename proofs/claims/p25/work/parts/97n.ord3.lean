/-! the loop over orders: an order's row is made -/
section Ords3
variable {D : va_G} {G G1 : gS} {M : mS} {rl : Nat → Nat} {o a v cap c d x y n j k : Nat} {S : sA} {L : List Nat} {b u : uS} {post : gS → mS → Nat → Prop} {kb : uS → gS → mS → Nat → Int32 → Int32 → Prop} {g : Nat → Nat}
/-- one place is what it will be -/
def gSet (D : va_G) (k i : Nat) (g : Nat → Nat) : Nat → Nat := fun t => if t = i then zO D k i else g t
theorem gS_at {i : Nat} : gSet D k i g i = zO D k i := if_pos rfl
theorem gS_ne {i t : Nat} (h : t ≠ i) : gSet D k i g t = g t := if_neg h
theorem OZ_f {m : Nat} {g' : Nat → Nat} (h : OZ D G M rl o S j x m g a v cap L) (hg : ∀ t, t < m → g' t = g t) : OZ D G M rl o S j x m g' a v cap L := ⟨⟨h.1.1, TR_f h.1.2 hg⟩, h.2⟩
/-- what the making stands on -/
def OK (D : va_G) (b : uS) (o a c d : Nat) (L : List Nat) (j k : Nat) (u : uS) (cap : Nat) (kb : uS → gS → mS → Nat → Int32 → Int32 → Prop) : Prop := (j ≤ 4 ∧ zOn D - j = k + 1) ∧ (1000 ≤ b.1 ∧ 200000 ≤ b.2) ∧ (c ≤ 420 ∧ d ≤ 22000) ∧ UB (c + 1) (d + 10) u cap L.length ∧ HKo D o a c d L j k kb
theorem OK_u (h : OK D b o a c d L j k u cap kb) : uL u b := UB_le h.2.2.2.1 (by have := h.2.1; have := h.2.2.1; omega) (by have := h.2.1; have := h.2.2.1; omega)
theorem OZ_i (h : OZ D G M rl o S j x 6 g a v cap L) {i : Nat} (hi : i < 6) : vp_in (zn i) (gN G x) := by rw [OZ_n h]; exact zn_in hi (by decide)
theorem cnd (h : OZ D G M rl o S j x 6 g a v cap L) (h3 : g 3 = zO3 D (k + 1)) (l : Nat) (hl : l < 100) : (mI M x 3 = zn l ↔ zO3 D (k + 1) = l) := by
  have := zO3_b (D := D) (k := k + 1)
  rw [OZ_v h (t := 3) (by decide), h3]
  exact zn_inj (by omega) (by omega)
theorem o_812 (ok : OK D b o a c d L j k u cap kb) (h : OZ D G M rl o S j x 6 g a v cap L) (h3 : ∀ t, t < 5 → g t = zO D (k + 1) t) (h5 : zO3 D (k + 1) ≠ 4 → g 5 = zO5 D (k + 1)) : nb_L_list_812 D b a kb post u G M o (zn (zN D)) (zn (k + 1)) (zOx D (k + 1)) (zn (zO0 D (k + 1))) x := by
  have hN := zN_b (D := D)
  unfold nb_L_list_812
  rw [nat_3, nat_5]
  refine i_ix (OZ_i h (i := 3) (by decide)) (i_if (fun e => ?_) (fun e => ?_))
  · have e4 := (cnd h (h3 3 (by decide)) 4 (by decide)).mp e
    refine i_ca0 (OK_u ok) (s_below (n := zN D) rfl (by omega) (by omega) (i_ix (OZ_i h (i := 5) (by decide)) (i_wI ?_)))
    have hg := OZ_w (i := 5) (g' := zO D (k + 1)) (cc := zn (bwN (zOx D (k + 1) >>> ((9 : Int32) &&& 31)) % zN D)) (by have := ok.1; omega) h (by
      show _ = zn (zO5 D (k + 1))
      unfold zO5
      rw [if_neg (by omega), if_neg (by omega), if_pos e4]) (fun t ht hne => (h3 t (by omega)).symm)
    exact o_834 ok.1.1 ok.1.2 ok.2.1 ok.2.2.1 hg ok.2.2.2.1 ok.2.2.2.2
  · have e4 : zO3 D (k + 1) ≠ 4 := fun z => e ((cnd h (h3 3 (by decide)) 4 (by decide)).mpr z)
    have hg := OZ_f (g' := zO D (k + 1)) h (fun t ht => by
      by_cases q : t = 5
      · rw [q, h5 e4]; rfl
      · exact (h3 t (by omega)).symm)
    exact o_834 ok.1.1 ok.1.2 ok.2.1 ok.2.2.1 hg ok.2.2.2.1 ok.2.2.2.2
theorem o_788 (ok : OK D b o a c d L j k u cap kb) (h : OZ D G M rl o S j x 6 g a v cap L) (h3 : ∀ t, t < 5 → g t = zO D (k + 1) t) (h5 : zO3 D (k + 1) ≠ 4 → zO3 D (k + 1) ≠ 2 → g 5 = zO5 D (k + 1)) : nb_L_list_788 D b a kb post u G M o (zn (zN D)) (zn (k + 1)) (zOx D (k + 1)) (zn (zO0 D (k + 1))) x := by
  unfold nb_L_list_788
  rw [nat_3, nat_5]
  refine i_ix (OZ_i h (i := 3) (by decide)) (i_if (fun e => ?_) (fun e => ?_))
  · have e2 := (cnd h (h3 3 (by decide)) 2 (by decide)).mp e
    refine i_ca0 (OK_u ok) (s_below (n := 12) rfl (by decide) (by decide) (i_ix (OZ_i h (i := 5) (by decide)) (i_wI ?_)))
    have hg := OZ_w (i := 5) (g' := zO D (k + 1)) (cc := (26 : Int32) + zn (bwN (zOx D (k + 1) >>> ((2 : Int32) &&& 31)) % 12)) (by have := ok.1; omega) h (by
      show _ = zn (zO5 D (k + 1))
      unfold zO5
      rw [if_neg (by omega), if_pos e2]
      exact zn_add 26 _) (fun t ht hne => (h3 t (by omega)).symm)
    exact o_812 ok hg (fun t _ => rfl) (fun _ => rfl)
  · have e2 : zO3 D (k + 1) ≠ 2 := fun z => e ((cnd h (h3 3 (by decide)) 2 (by decide)).mpr z)
    exact o_812 ok h h3 (fun z => h5 z e2)
theorem o_743 (ok : OK D b o a c d L j k u cap kb) (h : OZ D G M rl o S j x 6 g a v cap L) (h3 : ∀ t, t < 4 → g t = zO D (k + 1) t) (h4 : zO3 D (k + 1) ≤ 1 → g 4 = zO4 D (k + 1)) (h5 : zO3 D (k + 1) ≠ 4 → zO3 D (k + 1) ≠ 2 → g 5 = zO5 D (k + 1)) : nb_L_list_743 D b a kb post u G M o (zn (zN D)) (zn (k + 1)) (zOx D (k + 1)) (zn (zO0 D (k + 1))) x := by
  have hN := zN_b (D := D)
  have b3 := zO3_b (D := D) (k := k + 1)
  have e3 : mI M x 3 = zn (zO3 D (k + 1)) := by rw [OZ_v h (t := 3) (by decide), h3 3 (by decide)]; rfl
  unfold nb_L_list_743
  rw [nat_3]
  have fin : ∀ cc : Int32, 1 < zO3 D (k + 1) → cc = zn (zO4 D (k + 1)) → nb_L_list_787 D b a kb post u G M o (zn (zN D)) (zn (k + 1)) (zOx D (k + 1)) (zn (zO0 D (k + 1))) x x (4 : Int32) cc := by
    intro cc hz hcc
    unfold nb_L_list_787
    rw [nat_4]
    refine i_ix (OZ_i h (i := 4) (by decide)) (i_wI ?_)
    have hg := OZ_w (i := 4) (g' := gSet D (k + 1) 4 g) (by have := ok.1; omega) h (show cc = zn (gSet D (k + 1) 4 g 4) by rw [gS_at, hcc]; rfl) (fun t ht hne => gS_ne hne)
    exact o_788 ok hg (fun t ht => by
      by_cases q : t = 4
      · rw [q, gS_at]
      · rw [gS_ne q]; exact h3 t (by omega)) (fun z1 z2 => by rw [gS_ne (by decide)]; exact h5 z1 z2)
  refine i_ix (OZ_i h (i := 3) (by decide)) (i_if (fun e => ?_) (fun e => ?_))
  · have e1 : zO3 D (k + 1) ≤ 1 := by
      rw [e3] at e
      exact (zn_le (b := 1) (by omega) (by decide)).mp e
    exact o_788 ok h (fun t ht => by
      by_cases q : t = 4
      · rw [q, h4 e1]; rfl
      · exact h3 t (by omega)) h5
  · have e1 : 1 < zO3 D (k + 1) := by
      rw [e3] at e
      have : ¬ zO3 D (k + 1) ≤ 1 := fun z => e ((zn_le (b := 1) (by omega) (by decide)).mpr z)
      omega
    refine i_ix (OZ_i h (i := 3) (by decide)) (i_if (fun e => ?_) (fun e => ?_))
    · have e4 := (cnd h (h3 3 (by decide)) 4 (by decide)).mp e
      refine i_ca0 (OK_u ok) (s_below (n := 12) rfl (by decide) (by decide) (fin _ e1 ?_))
      unfold zO4
      rw [if_neg (by omega), if_neg (by omega), if_pos e4]
      exact zn_add 28 _
    · have e4 : zO3 D (k + 1) ≠ 4 := fun z => e ((cnd h (h3 3 (by decide)) 4 (by decide)).mpr z)
      refine i_ca0 (OK_u ok) (s_below (n := zN D) rfl (by omega) (by omega) (fin _ e1 ?_))
      unfold zO4
      rw [if_neg (by omega), if_neg (by omega), if_neg e4]
theorem o_719 (ok : OK D b o a c d L j k u cap kb) (h : OZ D G M rl o S j x 6 g a v cap L) (h3 : ∀ t, t < 4 → g t = zO D (k + 1) t) (h4 : zO3 D (k + 1) ≤ 1 → g 4 = zO4 D (k + 1)) (h5 : zO3 D (k + 1) ≠ 4 → zO3 D (k + 1) ≠ 2 → zO3 D (k + 1) ≠ 1 → g 5 = zO5 D (k + 1)) : nb_L_list_719 D b a kb post u G M o (zn (zN D)) (zn (k + 1)) (zOx D (k + 1)) (zn (zO0 D (k + 1))) x := by
  have b4 := zO4_b (D := D) (k := k + 1)
  unfold nb_L_list_719
  rw [nat_3, nat_4, nat_5]
  refine i_ix (OZ_i h (i := 3) (by decide)) (i_if (fun e => ?_) (fun e => ?_))
  · have e1 := (cnd h (h3 3 (by decide)) 1 (by decide)).mp e
    have c4 := b4.2.1 e1
    have ev : mI M x 4 = zn (zO4 D (k + 1)) := by rw [OZ_v h (t := 4) (by decide), h4 (by omega)]
    refine i_ix (OZ_i h (i := 4) (by decide)) (i_ca0 (OK_u ok) (s_below (n := zO4 D (k + 1)) ev (by omega) (by omega) (i_ix (OZ_i h (i := 5) (by decide)) (i_wI ?_))))
    have hg := OZ_w (i := 5) (g' := gSet D (k + 1) 5 g) (cc := zn (bwN (zOx D (k + 1) >>> ((6 : Int32) &&& 31)) % zO4 D (k + 1))) (by have := ok.1; omega) h (by
      rw [gS_at]
      show _ = zn (zO5 D (k + 1))
      unfold zO5
      rw [if_pos e1]) (fun t ht hne => gS_ne hne)
    exact o_743 ok hg (fun t ht => by rw [gS_ne (by omega)]; exact h3 t ht) (fun z => by rw [gS_ne (by decide)]; exact h4 z) (fun _ _ => gS_at)
  · have e1 : zO3 D (k + 1) ≠ 1 := fun z => e ((cnd h (h3 3 (by decide)) 1 (by decide)).mpr z)
    exact o_743 ok h h3 h4 (fun z1 z2 => h5 z1 z2 e1)
theorem o_696 (ok : OK D b o a c d L j k u cap kb) (h : OZ D G M rl o S j x 6 g a v cap L) (h3 : ∀ t, t < 4 → g t = zO D (k + 1) t) (h4 : zO3 D (k + 1) = 0 → g 4 = zO4 D (k + 1)) (h5 : zO3 D (k + 1) ≠ 4 → zO3 D (k + 1) ≠ 2 → zO3 D (k + 1) ≠ 1 → g 5 = zO5 D (k + 1)) : nb_L_list_696 D b a kb post u G M o (zn (zN D)) (zn (k + 1)) (zOx D (k + 1)) (zn (zO0 D (k + 1))) x := by
  unfold nb_L_list_696
  rw [nat_3, nat_4]
  refine i_ix (OZ_i h (i := 3) (by decide)) (i_if (fun e => ?_) (fun e => ?_))
  · have e1 := (cnd h (h3 3 (by decide)) 1 (by decide)).mp e
    refine i_ca0 (OK_u ok) (s_below (n := 9) rfl (by decide) (by decide) (i_ix (OZ_i h (i := 4) (by decide)) (i_wI ?_)))
    have hg := OZ_w (i := 4) (g' := gSet D (k + 1) 4 g) (cc := (2 : Int32) + zn (bwN (zOx D (k + 1) >>> ((2 : Int32) &&& 31)) % 9)) (by have := ok.1; omega) h (by
      rw [gS_at]
      show _ = zn (zO4 D (k + 1))
      unfold zO4
      rw [if_neg (by omega), if_pos e1]
      exact zn_add 2 _) (fun t ht hne => gS_ne hne)
    exact o_719 ok hg (fun t ht => by rw [gS_ne (by omega)]; exact h3 t ht) (fun _ => gS_at) (fun z1 z2 z3 => by rw [gS_ne (by decide)]; exact h5 z1 z2 z3)
  · have e1 : zO3 D (k + 1) ≠ 1 := fun z => e ((cnd h (h3 3 (by decide)) 1 (by decide)).mpr z)
    exact o_719 ok h h3 (fun z => h4 (by omega)) h5
set_option maxRecDepth 20000 in
theorem o_653 (ok : OK D b o a c d L j k u cap kb) (h : OZ D G M rl o S j x 2 (zO D (k + 1)) a v cap L) {cc : Int32} (hcc : cc = zn (zO2 D (k + 1))) : nb_L_list_653 D b a kb post u G M o (zn (zN D)) (zn (k + 1)) (zOx D (k + 1)) (zn (zO0 D (k + 1))) x x (2 : Int32) cc := by
  have hj : j ≤ 5 := by have := ok.1; omega
  unfold nb_L_list_653
  rw [nat_2, nat_3, nat_4, nat_5, OZ_n h]
  refine i_ix (vi_2 (by decide) (by decide)) (i_wI (i_ca0 (OK_u ok) (s_below (n := 5) rfl (by decide) (by decide) ?_)))
  have h1 := OZ_p (cc := cc) hj h hcc
  have h2 := OZ_p (cc := zn (zO3 D (k + 1))) hj h1 rfl
  have h3 : OZ D G (wI (wI (wI M x 2 cc) x 3 (zn (zO3 D (k + 1)))) x 4 0) rl o S j x 5 (fun t => if t < 4 then zO D (k + 1) t else 0) a v cap L := OZ_p (m := 4) hj (OZ_f (g' := fun t => if t < 4 then zO D (k + 1) t else 0) h2 (fun t ht => if_pos ht)) rfl
  have h4 : OZ D G (wI (wI (wI (wI M x 2 cc) x 3 (zn (zO3 D (k + 1)))) x 4 0) x 5 0) rl o S j x 6 (fun t => if t < 4 then zO D (k + 1) t else 0) a v cap L := OZ_p (m := 5) hj h3 rfl
  refine i_ix (by rw [OZ_n h]; exact vi_3 (by decide) (by decide)) (i_wI (i_ix (by rw [OZ_n h]; exact vi_4 (by decide) (by decide)) (i_wI (i_ix (by rw [OZ_n h]; exact vi_5 (by decide) (by decide)) (i_wI (i_ix (by rw [OZ_n h]; exact vi_3 (by decide) (by decide)) ?_))))))
  have hz5 : zO3 D (k + 1) ≠ 4 → zO3 D (k + 1) ≠ 2 → zO3 D (k + 1) ≠ 1 → 0 = zO5 D (k + 1) := fun z1 z2 z3 => by
    unfold zO5
    rw [if_neg z3, if_neg z2, if_neg z1]
  refine i_if (fun e => ?_) (fun e => ?_)
  · have e0 := (cnd (k := k) h4 (if_pos (by decide)) 0 (by decide)).mp e
    refine i_ca0 (OK_u ok) (s_below (n := 30) rfl (by decide) (by decide) (i_ix (by rw [OZ_n h]; exact vi_4 (by decide) (by decide)) (i_wI ?_)))
    have hg := OZ_w (i := 4) (g' := gSet D (k + 1) 4 (fun t => if t < 4 then zO D (k + 1) t else 0)) (cc := zn (bwN (zOx D (k + 1) >>> ((2 : Int32) &&& 31)) % 30)) hj h4 (by
      rw [gS_at]
      show _ = zn (zO4 D (k + 1))
      unfold zO4
      rw [if_pos e0]) (fun t ht hne => gS_ne hne)
    exact o_696 ok hg (fun t ht => by rw [gS_ne (by omega)]; exact if_pos ht) (fun _ => gS_at) (fun z1 z2 z3 => by rw [gS_ne (by decide)]; exact hz5 z1 z2 z3)
  · have e0 : zO3 D (k + 1) ≠ 0 := fun z => e ((cnd (k := k) h4 (if_pos (by decide)) 0 (by decide)).mpr z)
    exact o_696 ok h4 (fun t ht => if_pos ht) (fun z => absurd z e0) (fun z1 z2 z3 => hz5 z1 z2 z3)
theorem o_616 (ok : OK D b o a c d L j k u cap kb) (h : OZ D G M rl o S j x 1 (zO D (k + 1)) a v cap L) {cc : Int32} (hcc : cc = zn (zO1 D (k + 1))) : nb_L_list_616 D b a kb post u G M o (zn (zN D)) (zn (k + 1)) (zOx D (k + 1)) (zn (zO0 D (k + 1))) (zn (zOf D (k + 1))) x x (1 : Int32) cc := by
  have hj : j ≤ 5 := by have := ok.1; omega
  have b0 := zO0_b (D := D) (k := k + 1)
  have bf := zOf_b (D := D) (k := k + 1)
  have w30 : bwN (zOx D (k + 1) >>> ((6 : Int32) &&& 31)) % 30 < 30 := Nat.mod_lt _ (by decide)
  unfold nb_L_list_616
  rw [nat_1, OZ_n h]
  refine i_ix (vi_1 (by decide) (by decide)) (i_wI ?_)
  have h1 := OZ_p (cc := cc) hj h hcc
  refine i_if (fun e => ?_) (fun e => ?_)
  · have e0 := (zn_inj (b := 0) (by omega) (by decide)).mp e
    refine i_ca0 (OK_u ok) (s_below (n := 30) rfl (by decide) (by decide) (o_653 ok h1 ?_))
    rw [zn_add, min63 (by omega)]
    congr 1
    unfold zO2
    rw [if_pos e0]
  · have e0 : ¬ zO0 D (k + 1) = 0 := fun z => e (by rw [z]; rfl)
    refine i_ca0 (OK_u ok) (s_below (n := 4) rfl (by decide) (by decide) (o_653 ok h1 ?_))
    unfold zO2
    rw [if_neg e0]
set_option maxRecDepth 20000 in
theorem o_538 (hX : xL D ≤ 260) (hbb : 1000 ≤ b.1 ∧ 200000 ≤ b.2) (hM : SM G M rl o S (pzD D (zR D) 0) (zQ D) (yzD D (zN D) (zPn D))) (hT : TB G M rl 20000 a v cap (txP D (zPn D))) (hU : UB 274 4299 u cap (txP D (zPn D)).length) (hk : ∀ G' M' rl' S' v' cap', SM G' M' rl' o S' (pzD D (zR D) (zOn D)) (zQ D) (yzD D (zN D) (zPn D)) → TB G' M' rl' 20000 a v' cap' (txO D (zOn D)) → post G' M' o) : nl_L_list_538 D b a post u G M o (zn (zN D)) (zn (zOn D)) := by
  have hN5 := zN_b (D := D)
  have hO6 := zOn_b (D := D)
  refine ⟨fun m u1 G1 M1 w2 w4 w5 => o = w2 ∧ zn (zN D) = w4 ∧ ∃ j rl1 S1 v1 cap1, m + j = zOn D ∧ zn m = w5 ∧ SM G1 M1 rl1 o S1 (pzD D (zR D) j) (zQ D) (yzD D (zN D) (zPn D)) ∧ TB G1 M1 rl1 20000 a v1 cap1 (txO D j) ∧ UB (274 + 34 * j) (4299 + 4100 * j) u1 cap1 (txO D j).length, zOn D, ⟨rfl, rfl, 0, rl, S, v, cap, Nat.add_zero _, rfl, hM, hT, hU⟩, ?_⟩
  rintro m u1 G1 M1 w2 w4 w5 ⟨rfl, rfl, j, rl1, S1, v1, cap1, hm, rfl, hM1, hT1, hU1⟩
  have hu1 : uL u1 b := UB_le hU1 (by omega) (by omega)
  unfold nb_L_list_538
  by_cases e : m = 0
  · subst e
    have ej : j = zOn D := by omega
    rw [ej] at hM1 hT1
    exact i_t ((zn_le (a := 0) (b := 0) (by decide) (by decide)).mpr (Nat.le_refl _)) (hk _ _ rl1 S1 v1 cap1 hM1 hT1)
  · obtain ⟨k, rfl⟩ : ∃ k, m = k + 1 := ⟨m - 1, by omega⟩
    have ek : zOn D - j = k + 1 := by omega
    have hb := SGbo (D := D) (j := j) (by omega)
    have hP := UB_p (w := (1, 6)) hU1
    have hup : uL (uP u1 (1, 6)) b := UB_le hP (by dsimp only; omega) (by dsimp only; omega)
    refine i_f (fun z => by have := (zn_le (a := k + 1) (b := 0) (by omega) (by decide)).mp z; omega) (i_ca0 hu1 (s_cellD hX (k := 13) rfl (by decide) (i_bd (i_ca0 hu1 (s_below (n := zN D) rfl (by omega) (by omega) (i_ca0 hu1 (s_below (n := 4) rfl (by decide) (by decide) (i_ca0 hu1 (s_below (n := 16) rfl (by decide) (by decide) (i_bde (zn_add 24 _) (i_na (N := 6) rfl (by decide) hup (fun x hx => ?_))))))))))))
    have R1 : TR (gNw G1 x 12 6) (wZ M1 x) (rU rl1 x 0) x 6 0 (zO D (k + 1)) := TR_nw hx
    have M1' := SM_nw (k := 12) (n := 6) (r := 0) hb hM1 hx
    have T1 := TB_nw (k := 12) (n := 6) (s := 0) hT1 hx
    have Z0 : OZ D (gNw G1 x 12 6) (wZ M1 x) (rU rl1 x 0) o S1 j x 0 (zO D (k + 1)) a v1 cap1 (txO D j) := ⟨⟨M1', R1⟩, T1⟩
    have Z1 := OZ_p (cc := zn (zO0 D (k + 1))) (by omega) Z0 rfl
    have hkb : HKo D o a (274 + 34 * j) (4299 + 4100 * j) (txO D j) j k (fun u G M v2 v4 v5 => ∃ k', k' < k + 1 ∧ (o = v2 ∧ zn (zN D) = v4 ∧ ∃ j rl1 S1 v1 cap1, k' + j = zOn D ∧ zn k' = v5 ∧ SM G M rl1 o S1 (pzD D (zR D) j) (zQ D) (yzD D (zN D) (zPn D)) ∧ TB G M rl1 20000 a v1 cap1 (txO D j) ∧ UB (274 + 34 * j) (4299 + 4100 * j) u cap1 (txO D j).length)) := by
      intro u' G' M' rl' S' v' cap' hM' hT' hU'
      have hL : (((txO D j ++ txH (zO D (k + 1))) ++ sTx 35) ++ txS (zO D (k + 1))) ++ sTx 27 = txO D (j + 1) := by
        show _ = (((txO D j ++ txH (zQ D j)) ++ sTx 35) ++ txS (zQ D j)) ++ sTx 27
        have : zQ D j = zO D (k + 1) := by
          funext t
          show zO D (zOn D - j) t = _
          rw [ek]
        rw [this]
      rw [hL] at hT' hU'
      exact ⟨k, Nat.lt_succ_self k, rfl, rfl, j + 1, rl', S', v', cap', by omega, rfl, hM', hT', UB_mono hU' (by omega) (by omega)⟩
    have ok : OK D b o a (274 + 34 * j) (4299 + 4100 * j) (txO D j) j k (uP u1 (1, 6)) cap1 _ := ⟨⟨by omega, ek⟩, hbb, ⟨by omega, by omega⟩, UB_mono hP (by dsimp only; omega) (by dsimp only; omega), hkb⟩
    have b0 := zO0_b (D := D) (k := k + 1)
    refine i_ix (by rw [OZ_n Z0]; exact vi_0 (by decide) (by decide)) ?_
    rw [nat_0]
    refine i_wI (i_if (fun e => ?_) (fun e => ?_))
    · have e0 := (zn_inj (b := 0) (a := zO0 D (k + 1)) (by omega) (by decide)).mp e
      refine o_616 ok Z1 ?_
      show zn (zOf D (k + 1)) = _
      rw [zO1_b.1 e0]
    · have e0 : ¬ zO0 D (k + 1) = 0 := fun z => e (show zn (zO0 D (k + 1)) = 0 by rw [z]; rfl)
      refine o_616 ok Z1 ?_
      show zn (zOa D (k + 1)) = _
      unfold zO1
      rw [if_neg e0]
end Ords3
