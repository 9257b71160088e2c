/-! the yard by hand: an ant goes, all of it -/
def mB (t : Nat) : Int32 := if t = 0 then -1 else if t = 1 then 1 else if t = 2 then 0 else 2
theorem by_t : ∀ s : Nat, s < 4 → ∀ t : Nat, t < 4 → zn s + mB t + (4 : Int32) - (zn s + mB t + (4 : Int32)) / (4 : Int32) * (4 : Int32) = zn ((s + tb t) % 4) := by decide
theorem zn_mod64 {a : Nat} (ha : a < 1000000) : zn a - zn a / (64 : Int32) * (64 : Int32) = zn (a % 64) := zn_mod (b := 64) (by omega) (by decide)
theorem md1 {c z : Nat} (hz : 1 ≤ z) : (c + 1) % z = if c % z + 1 = z then 0 else c % z + 1 := by
  have hm := Nat.mod_lt c hz
  have h0 : c + 1 = z * (c / z) + (c % z + 1) := by
    have := Nat.div_add_mod c z
    omega
  by_cases e : c % z + 1 = z
  · rw [if_pos e, h0, e, Nat.mul_add_mod, Nat.mod_self]
  · rw [if_neg e, h0, Nat.mul_add_mod, Nat.mod_eq_of_lt (by omega)]
section SimGo2
variable {G : gS} {M : mS} {rl : Nat → Nat} {o : Nat} {S : sA} {P : aP} {q : Nat → Nat → Nat} {Y : aY} {b u : uS} {bb : Nat} {post : gS → mS → Unit → Prop} {kb56 : uS → gS → mS → Int32 → Prop}
theorem SM_cell (hb : SGb P (yd_n Y)) (h : SM G M rl o S P q Y) {r x v : Nat} (hr : r < 64) (hx : x < 64) : SM G (wI M (sry S r) x (zn v)) rl o S P q (aSet (64 * r + x) v Y) := by
  obtain ⟨_, r2, _, r4, _⟩ := h.1.2.2.2.1 r hr
  have ne : ∀ y, rl y ≠ 2000 + r → mI (wI M (sry S r) x (zn v)) y = mI M y := fun y hy => mI_ne (rl_ne (rl := rl) (by rw [r4]; exact hy))
  refine ⟨h.1, SMo_cg h.1.1 h.2.1 (fun y _ e => ne y (by omega)), fun k hk t ht => ?_, SMa_cg h.1.2.2 hb.2.1 h.2.2.2.1 (fun y _ _ _ => ne y (by omega)), SMp_cg h.1.2.2 hb h.2.2.2.2 (fun y _ _ => ne y (by omega))⟩
  show _ = zn (cSet (yd_c Y) (64 * r + x) v (64 * k + t))
  obtain ⟨_, k2, _, k4, _⟩ := h.1.2.2.2.1 k hk
  unfold cSet
  by_cases e : k = r
  · subst e
    rw [mI_eq]
    by_cases e2 : t = x
    · rw [if_pos e2, if_pos (by omega)]
    · rw [if_neg e2, if_neg (by omega)]
      exact h.2.2.1 k hk t ht
  · rw [ne _ (by omega), if_neg (by omega)]
    exact h.2.2.1 k hk t ht
theorem g_200 (hb : SGb P (yd_n Y)) (h : SM G M rl o S P q Y) {i : Nat} (hi : i < yd_n Y) (hN : an_n (yd_a Y i) ≤ 100000) (hy : an_y (yd_a Y i) < 64) {d : Nat} (hd : d < 64) (hB : uL (uP u (1, an_n (yd_a Y i) + 1)) b) (hk : ∀ G' M' rl' S', Kp G M rl G' M' rl' → SE S S' → SM G' M' rl' o S' P q (aAnt i (anPush (anPos (an_x (yd_a Y i)) ((an_y (yd_a Y i) + d) % 64) (yd_a Y i))) Y) → kb56 (uP u (1, an_n (yd_a Y i) + 1)) G' M' (zn (i + 1))) : nb_X10_go_200 b o kb56 post u G M (zn i) (sra S i) (sra S i) (2 : Int32) (zn (an_y (yd_a Y i))) (zn d) := by
  have hi2 := hb.2.1
  obtain ⟨_, hna⟩ := SM_a h hi
  obtain ⟨_, ra2, _, ra4, _⟩ := h.1.2.2.2.2.1 i hi
  have hAr := SM_ar h hi
  have sia : Si rl (sra S i) := by unfold Si; rw [ra4]; omega
  unfold nb_X10_go_200
  rw [zn_add, zn_mod64 (by omega), nat_2]
  refine i_ck (by decide) (i_ix (by rw [hna]; exact vi_2 (by decide) (by decide)) (i_wI ?_))
  have h1 : SM G (wI M (sra S i) 2 (zn ((an_y (yd_a Y i) + d) % 64))) rl o S P q (aAnt i (anPos (an_x (yd_a Y i)) ((an_y (yd_a Y i) + d) % 64) (yd_a Y i)) Y) := by
    refine SM_ant hb h hi (fun y hy => mI_ne hy) ?_ rfl (fun _ _ => rfl)
    unfold aRow
    rw [mI_eq, mI_eq, mI_eq, mI_eq, mI_eq, mI_eq, if_neg (by decide), if_neg (by decide), if_pos rfl, if_neg (by decide), if_neg (by decide), if_neg (by decide)]
    exact ⟨hAr.1, hAr.2.1, rfl, hAr.2.2.2.1, hAr.2.2.2.2.1, hAr.2.2.2.2.2⟩
  have hb1 : SGb P (yd_n (aAnt i (anPos (an_x (yd_a Y i)) ((an_y (yd_a Y i) + d) % 64) (yd_a Y i)) Y)) := hb
  have g := g_231 (u := u) (b := b) (post := post) (kb56 := kb56) hb1 h1 (i := i) hi
  rw [ya_at] at g
  refine g hN hB (fun G' M' rl' S' kp se hs => hk G' M' rl' S' (Kp_tr (Kp_wI sia) kp) se ?_)
  rw [aAnt_aAnt] at hs
  exact hs
theorem g_226 (hb : SGb P (yd_n Y)) (h : SM G M rl o S P q Y) {i : Nat} (hi : i < yd_n Y) (hN : an_n (yd_a Y i) ≤ 100000) (hy : an_x (yd_a Y i) < 64) {d : Nat} (hd : d < 64) (hB : uL (uP u (1, an_n (yd_a Y i) + 1)) b) (hk : ∀ G' M' rl' S', Kp G M rl G' M' rl' → SE S S' → SM G' M' rl' o S' P q (aAnt i (anPush (anPos ((an_x (yd_a Y i) + d) % 64) (an_y (yd_a Y i)) (yd_a Y i))) Y) → kb56 (uP u (1, an_n (yd_a Y i) + 1)) G' M' (zn (i + 1))) : nb_X10_go_226 b o kb56 post u G M (zn i) (sra S i) (sra S i) (1 : Int32) (zn (an_x (yd_a Y i))) (zn d) := by
  have hi2 := hb.2.1
  obtain ⟨_, hna⟩ := SM_a h hi
  obtain ⟨_, ra2, _, ra4, _⟩ := h.1.2.2.2.2.1 i hi
  have hAr := SM_ar h hi
  have sia : Si rl (sra S i) := by unfold Si; rw [ra4]; omega
  unfold nb_X10_go_226
  rw [zn_add, zn_mod64 (by omega), nat_1]
  refine i_ck (by decide) (i_ix (by rw [hna]; exact vi_1 (by decide) (by decide)) (i_wI ?_))
  have h1 : SM G (wI M (sra S i) 1 (zn ((an_x (yd_a Y i) + d) % 64))) rl o S P q (aAnt i (anPos ((an_x (yd_a Y i) + d) % 64) (an_y (yd_a Y i)) (yd_a Y i)) Y) := by
    refine SM_ant hb h hi (fun y hy => mI_ne hy) ?_ rfl (fun _ _ => rfl)
    unfold aRow
    rw [mI_eq, mI_eq, mI_eq, mI_eq, mI_eq, mI_eq, if_neg (by decide), if_pos rfl, if_neg (by decide), if_neg (by decide), if_neg (by decide), if_neg (by decide)]
    exact ⟨hAr.1, rfl, hAr.2.2.1, hAr.2.2.2.1, hAr.2.2.2.2.1, hAr.2.2.2.2.2⟩
  have hb1 : SGb P (yd_n (aAnt i (anPos ((an_x (yd_a Y i) + d) % 64) (an_y (yd_a Y i)) (yd_a Y i)) Y)) := hb
  have g := g_231 (u := u) (b := b) (post := post) (kb56 := kb56) hb1 h1 (i := i) hi
  rw [ya_at] at g
  refine g hN hB (fun G' M' rl' S' kp se hs => hk G' M' rl' S' (Kp_tr (Kp_wI sia) kp) se ?_)
  rw [aAnt_aAnt] at hs
  exact hs
theorem g_174 (hb : SGb P (yd_n Y)) (h : SM G M rl o S P q Y) {i : Nat} (hi : i < yd_n Y) (hN : an_n (yd_a Y i) ≤ 100000) (hv : vA (yd_a Y i)) {v : Nat} (hB : uL (uP u (1, an_n (yd_a Y i) + 1)) b) (hk : ∀ G' M' rl' S', Kp G M rl G' M' rl' → SE S S' → SM G' M' rl' o S' P q (aAnt i (anPush (anPos (nx (an_x (yd_a Y i)) (an_s (yd_a Y i))) (ny (an_y (yd_a Y i)) (an_s (yd_a Y i))) (yd_a Y i))) (aSet (pl_ (yd_a Y i)) v Y)) → kb56 (uP u (1, an_n (yd_a Y i) + 1)) G' M' (zn (i + 1))) : nb_X10_go_174 b o kb56 post u G M (zn i) (sra S i) (sry S (an_y (yd_a Y i))) (zn (an_x (yd_a Y i))) (zn v) := by
  obtain ⟨v1, v2, v3, v4, v5, v6⟩ := hv
  obtain ⟨_, hna⟩ := SM_a h hi
  obtain ⟨_, hny⟩ := SM_y h v3
  obtain ⟨_, ry2, _, ry4, _⟩ := h.1.2.2.2.1 _ v3
  have siy : Si rl (sry S (an_y (yd_a Y i))) := by unfold Si; rw [ry4]; omega
  have h1 := SM_cell (v := v) hb h v3 v2
  have hAr := SM_ar h1 (i := i) hi
  have hlit : ∀ {k : Nat} {l : Nat}, k < 1000 → l < 1000 → ((zn k = zn l) ↔ k = l) := fun a c => zn_inj (by omega) (by omega)
  unfold nb_X10_go_174
  rw [zn_nat (by omega), nat_1, nat_2, nat_3]
  refine i_ix (by rw [hny]; exact zn_in v2 (by decide)) (i_wI (i_ix (by rw [hna]; exact vi_3 (by decide) (by decide)) (i_ck (by decide) ?_)))
  have a1 : mI (wI M (sry S (an_y (yd_a Y i))) (an_x (yd_a Y i)) (zn v)) (sra S i) 1 = zn (an_x (yd_a Y i)) := hAr.2.1
  have a2 : mI (wI M (sry S (an_y (yd_a Y i))) (an_x (yd_a Y i)) (zn v)) (sra S i) 2 = zn (an_y (yd_a Y i)) := hAr.2.2.1
  have a3 : mI (wI M (sry S (an_y (yd_a Y i))) (an_x (yd_a Y i)) (zn v)) (sra S i) 3 = zn (an_s (yd_a Y i)) := hAr.2.2.2.1
  rw [a1, a2, a3, show (2 : Int32) = zn 2 from rfl, zn_mod (by omega) (by decide)]
  have hb1 : SGb P (yd_n (aSet (pl_ (yd_a Y i)) v Y)) := hb
  have hx : ∀ {k : Nat}, k < 6 → vp_in (zn k) (gN G (sra S i)) := fun hk => by rw [hna]; exact zn_in hk (by decide)
  refine i_if (fun k => ?_) (fun k => ?_)
  · have e := (hlit (l := 0) (by omega) (by decide)).mp k
    refine i_ix (hx (k := 2) (by decide)) (i_ix (hx (k := 3) (by decide)) (i_if (fun k2 => ?_) (fun k2 => ?_)))
    · have e2 := (hlit (l := 0) (by omega) (by decide)).mp k2
      refine g_200 (Y := aSet (pl_ (yd_a Y i)) v Y) hb1 h1 hi hN v3 (d := 63) (by decide) hB (fun G' M' rl' S' kp se hs => hk G' M' rl' S' (Kp_tr (Kp_wI siy) kp) se ?_)
      rw [show nx (an_x (yd_a Y i)) (an_s (yd_a Y i)) = an_x (yd_a Y i) by rw [e2]; rfl, show ny (an_y (yd_a Y i)) (an_s (yd_a Y i)) = (an_y (yd_a Y i) + 63) % 64 by rw [e2]; rfl]
      exact hs
    · have e2 : an_s (yd_a Y i) = 2 := by
        have : ¬ an_s (yd_a Y i) = 0 := fun z => k2 (by rw [z]; rfl)
        omega
      refine g_200 (Y := aSet (pl_ (yd_a Y i)) v Y) hb1 h1 hi hN v3 (d := 1) (by decide) hB (fun G' M' rl' S' kp se hs => hk G' M' rl' S' (Kp_tr (Kp_wI siy) kp) se ?_)
      rw [show nx (an_x (yd_a Y i)) (an_s (yd_a Y i)) = an_x (yd_a Y i) by rw [e2]; rfl, show ny (an_y (yd_a Y i)) (an_s (yd_a Y i)) = (an_y (yd_a Y i) + 1) % 64 by rw [e2]; rfl]
      exact hs
  · have e : ¬ an_s (yd_a Y i) % 2 = 0 := fun z => k (by rw [z]; rfl)
    refine i_ix (hx (k := 1) (by decide)) (i_ix (hx (k := 3) (by decide)) (i_if (fun k2 => ?_) (fun k2 => ?_)))
    · have e2 := (hlit (l := 1) (by omega) (by decide)).mp k2
      refine g_226 (Y := aSet (pl_ (yd_a Y i)) v Y) hb1 h1 hi hN v2 (d := 1) (by decide) hB (fun G' M' rl' S' kp se hs => hk G' M' rl' S' (Kp_tr (Kp_wI siy) kp) se ?_)
      rw [show nx (an_x (yd_a Y i)) (an_s (yd_a Y i)) = (an_x (yd_a Y i) + 1) % 64 by rw [e2]; rfl, show ny (an_y (yd_a Y i)) (an_s (yd_a Y i)) = an_y (yd_a Y i) by rw [e2]; rfl]
      exact hs
    · have e2 : an_s (yd_a Y i) = 3 := by
        have : ¬ an_s (yd_a Y i) = 1 := fun z => k2 (by rw [z]; rfl)
        omega
      refine g_226 (Y := aSet (pl_ (yd_a Y i)) v Y) hb1 h1 hi hN v2 (d := 63) (by decide) hB (fun G' M' rl' S' kp se hs => hk G' M' rl' S' (Kp_tr (Kp_wI siy) kp) se ?_)
      rw [show nx (an_x (yd_a Y i)) (an_s (yd_a Y i)) = (an_x (yd_a Y i) + 63) % 64 by rw [e2]; rfl, show ny (an_y (yd_a Y i)) (an_s (yd_a Y i)) = an_y (yd_a Y i) by rw [e2]; rfl]
      exact hs
theorem uL_tr {a c d : uS} (h : uL a c) (h2 : uL c d) : uL a d := ⟨Nat.le_trans h.1 h2.1, Nat.le_trans h.2 h2.2⟩
theorem uL_P {a c : uS} : uL a (uP a c) := ⟨Nat.le_add_right _ _, Nat.le_add_right _ _⟩
theorem g_56 (hb : SGb P (yd_n Y)) (h : SM G M rl o S P q Y) {i : Nat} (hi : i < yd_n Y) (hN : an_n (yd_a Y i) ≤ 100000) (hv : vA (yd_a Y i)) (hc : ∀ p, yd_c Y p < 6) (hr : an_r (yd_a Y i) < pg_r P) {n : Nat} (hP : vP n P) {back : uS → gS → mS → Int32 → Prop} (hB : uL (uP (uP u (1, 4)) (1, an_n (yd_a Y i) + 1)) b) (hk : ∀ u' G' M' rl' S', (u' = u ∨ u' = uP (uP u (1, 4)) (1, an_n (yd_a Y i) + 1)) → Kp G M rl G' M' rl' → SE S S' → SM G' M' rl' o S' P q (aMv P i Y) → back u' G' M' (zn (i + 1))) : nb_X10_go_56 b o post back u G M (zn i) := by
  have hi2 := hb.2.1
  obtain ⟨v1, v2, v3, v4, v5, v6⟩ := hv
  obtain ⟨hqa, hna⟩ := SM_a h hi
  obtain ⟨_, ra2, _, ra4, _⟩ := h.1.2.2.2.2.1 i hi
  obtain ⟨_, rr2, _, rr4, _⟩ := h.1.2.2.1 _ hr
  obtain ⟨_, ry2, _, ry4, _⟩ := h.1.2.2.2.1 _ v3
  have sia : Si rl (sra S i) := by unfold Si; rw [ra4]; omega
  have hAr := SM_ar h hi
  obtain ⟨hqr, hnr⟩ := SM_r h hr
  obtain ⟨hqy, hny⟩ := SM_y h v3
  have hz := hP.2.1 _ hr
  have hpr : pg_r P ≤ 5 := hP.1
  have hin : vp_in (zn i) (gN G (sg S 2)) := by rw [(SM_n h).2.2.1]; exact zn_in hi (by omega)
  have hlit : ∀ {k : Nat} {l : Nat}, k < 1000 → l < 1000 → ((zn k = zn l) ↔ k = l) := fun a c => zn_inj (by omega) (by omega)
  unfold nb_X10_go_56 nb_X10_go_292
  rw [zn_nat (by omega), nat_0, nat_1, nat_2, nat_3, nat_4]
  refine i_rf (SM_f h (i := 2) (by decide)) (i_f (by rw [(SM_n h).2.2.1, zn_le (by omega) (by omega)]; omega) (i_rf (SM_f h (i := 2) (by decide)) (i_ix hin (i_rf hqa ?_))))
  have hx : ∀ {k : Nat}, k < 6 → vp_in (zn k) (gN G (sra S i)) := fun hk => by rw [hna]; exact zn_in hk (by decide)
  refine i_ix (hx (k := 4) (by decide)) ?_
  rw [hAr.2.2.2.2.1, hAr.1, hAr.2.2.1, hAr.2.1]
  refine i_if (fun k => ?_) (fun k => ?_)
  · have e := (hlit (l := 0) (by omega) (by decide)).mp k
    refine i_bde (zn_one i) (hk u G M rl S (Or.inl rfl) Kp_rf SE_rf ?_)
    unfold aMv
    rw [if_pos e]
    exact h
  · have ew : ¬ an_w (yd_a Y i) = 0 := fun z => k (by rw [z]; rfl)
    refine i_rf (SM_f h (i := 0) (by decide)) (i_ix (hx (k := 0) (by decide)) (i_ix (by rw [(SM_n h).1]; exact zn_in hr (by omega)) ?_))
    rw [zn_nat (by omega)]
    refine i_rf hqr (i_rf (SM_f h (i := 1) (by decide)) (i_ix (hx (k := 2) (by decide)) (i_ix (by rw [(SM_n h).2.1]; exact zn_in v3 (by decide)) ?_)))
    rw [zn_nat (a := an_y (yd_a Y i)) (by omega)]
    refine i_rf hqy (i_ix (hx (k := 1) (by decide)) (i_ix (by rw [hny]; exact zn_in v2 (by decide)) ?_))
    rw [zn_nat (a := an_x (yd_a Y i)) (by omega), h.2.2.1 _ v3 _ v2, hnr]
    have hcp := hc (64 * an_y (yd_a Y i) + an_x (yd_a Y i))
    refine i_ck (fun z => by have := (hlit (l := 0) (by omega) (by decide)).mp z; omega) (i_bd ?_)
    rw [show zn (yd_c Y (64 * an_y (yd_a Y i) + an_x (yd_a Y i))) - zn (yd_c Y (64 * an_y (yd_a Y i) + an_x (yd_a Y i))) / Int32.ofNat (pg_z P (an_r (yd_a Y i))) * Int32.ofNat (pg_z P (an_r (yd_a Y i))) = zn (yd_c Y (64 * an_y (yd_a Y i) + an_x (yd_a Y i)) % pg_z P (an_r (yd_a Y i))) from zn_mod (by omega) (by omega)]
    have hm := Nat.mod_lt (yd_c Y (64 * an_y (yd_a Y i) + an_x (yd_a Y i))) (show 0 < pg_z P (an_r (yd_a Y i)) by omega)
    have hmv : aMv P i Y = aAnt i (anGo (pg_t P (an_r (yd_a Y i)) (yd_c Y (pl_ (yd_a Y i)) % pg_z P (an_r (yd_a Y i)))) (yd_a Y i)) (aSet (pl_ (yd_a Y i)) ((yd_c Y (pl_ (yd_a Y i)) + 1) % pg_z P (an_r (yd_a Y i))) Y) := by
      unfold aMv
      rw [if_neg ew]
    rw [hmv, md1 (by omega)] at hk
    clear hmv
    generalize hcc : yd_c Y (64 * an_y (yd_a Y i) + an_x (yd_a Y i)) % pg_z P (an_r (yd_a Y i)) = cc at hm ⊢
    rw [show yd_c Y (pl_ (yd_a Y i)) % pg_z P (an_r (yd_a Y i)) = cc from hcc] at hk
    rw [zn_nat (a := cc) (by omega)]
    have ht4 : pg_t P (an_r (yd_a Y i)) cc < 4 := hP.2.2.1 _ _
    refine i_na (N := 4) rfl (by decide) (uL_tr uL_P hB) (fun x hxn => ?_)
    have nxa : sra S i ≠ x := mem_ne ra2 hxn
    have h2 := SM_nw (r := 0) (k := 12) (n := 4) hb h hxn
    have hxx : ∀ {k : Nat}, k < 4 → vp_in (zn k) (gN (gNw G x 12 4) x) := fun hk => by rw [gN_nw]; exact zn_in hk (by decide)
    refine i_ix (hxx (k := 0) (by decide)) (i_wI (i_ix (hxx (k := 1) (by decide)) (i_wI (i_ix (hxx (k := 2) (by decide)) (i_wI (i_ix (hxx (k := 3) (by decide)) (i_wI ?_)))))))
    have kp3 : Kp G M rl (gNw G x 12 4) (wI (wI (wI (wI (wZ M x) x 0 (-1)) x 1 1) x 2 0) x 3 2) (rU rl x 0) := Kp_wIn (Kp_wIn (Kp_wIn (Kp_wIn (Kp_nw hxn) hxn) hxn) hxn) hxn
    have mo : ∀ y, y ≠ x → mI (wI (wI (wI (wI (wZ M x) x 0 (-1)) x 1 1) x 2 0) x 3 2) y = mI M y := fun y hy => by rw [mI_ne hy, mI_ne hy, mI_ne hy, mI_ne hy, wZ_ne hy]
    have mx : ∀ t, t < 4 → mI (wI (wI (wI (wI (wZ M x) x 0 (-1)) x 1 1) x 2 0) x 3 2) x t = mB t := fun t ht => by
      rw [mI_eq, mI_eq, mI_eq, mI_eq]
      rcases (show t = 0 ∨ t = 1 ∨ t = 2 ∨ t = 3 by omega) with rfl | rfl | rfl | rfl <;> rfl
    generalize wI (wI (wI (wI (wZ M x) x 0 (-1)) x 1 1) x 2 0) x 3 2 = M3 at kp3 mo mx ⊢
    have h3 : SM (gNw G x 12 4) M3 (rU rl x 0) o S P q Y := SM_cg hb h (GK_nw hxn) (fun y hy _ => mo y (mem_ne hy hxn))
    have hn3 : gN (gNw G x 12 4) (sra S i) = 6 := (SM_a h3 hi).2
    have hx3 : ∀ {k : Nat}, k < 6 → vp_in (zn k) (gN (gNw G x 12 4) (sra S i)) := fun hk => by rw [hn3]; exact zn_in hk (by decide)
    refine i_ix (hx3 (k := 3) (by decide)) (i_ix (by rw [(SM_r h3 hr).2]; exact zn_in hm (by omega)) ?_)
    rw [h3.2.2.2.2.1 _ hr _ hm]
    refine i_ix (by rw [gN_nw]; exact zn_in ht4 (by decide)) (i_ck (by decide) (i_ix (hx3 (k := 3) (by decide)) ?_))
    rw [zn_nat (a := pg_t P (an_r (yd_a Y i)) cc) (by omega), mx _ ht4, (SM_ar h3 hi).2.2.2.1, by_t _ v4 _ ht4]
    refine i_wI ?_
    have sia3 : Si (rU rl x 0) (sra S i) := by unfold Si; rw [rU_ne nxa, ra4]; omega
    have h4 : SM (gNw G x 12 4) (wI M3 (sra S i) 3 (zn ((an_s (yd_a Y i) + tb (pg_t P (an_r (yd_a Y i)) cc)) % 4))) (rU rl x 0) o S P q (aAnt i (anSide ((an_s (yd_a Y i) + tb (pg_t P (an_r (yd_a Y i)) cc)) % 4) (yd_a Y i)) Y) := by
      have hAr3 := SM_ar h3 hi
      refine SM_ant hb h3 hi (fun y hy => mI_ne hy) ?_ rfl (fun _ _ => rfl)
      unfold aRow
      rw [mI_eq, mI_eq, mI_eq, mI_eq, mI_eq, mI_eq, if_neg (by decide), if_neg (by decide), if_neg (by decide), if_pos rfl, if_neg (by decide), if_neg (by decide)]
      exact ⟨hAr3.1, hAr3.2.1, hAr3.2.2.1, rfl, hAr3.2.2.2.2.1, hAr3.2.2.2.2.2⟩
    have hb4 : SGb P (yd_n (aAnt i (anSide ((an_s (yd_a Y i) + tb (pg_t P (an_r (yd_a Y i)) cc)) % 4) (yd_a Y i)) Y)) := hb
    have kp4 := Kp_tr kp3 (Kp_wI (M := M3) (j := 3) (v := zn ((an_s (yd_a Y i) + tb (pg_t P (an_r (yd_a Y i)) cc)) % 4)) (G := gNw G x 12 4) sia3)
    have hA4 := SM_ar h4 (i := i) hi
    rw [ya_at] at hA4
    have m1 : mI (wI M3 (sra S i) 3 (zn ((an_s (yd_a Y i) + tb (pg_t P (an_r (yd_a Y i)) cc)) % 4))) (sra S i) 1 = zn (an_x (yd_a Y i)) := hA4.2.1
    have m2 : mI (wI M3 (sra S i) 3 (zn ((an_s (yd_a Y i) + tb (pg_t P (an_r (yd_a Y i)) cc)) % 4))) (sra S i) 2 = zn (an_y (yd_a Y i)) := hA4.2.2.1
    rw [m1, m2]
    refine i_rf (SM_f h4 (i := 1) (by decide)) (i_ix (hx3 (k := 2) (by decide)) (i_ix (by rw [(SM_n h4).2.1]; exact zn_in v3 (by decide)) ?_))
    rw [zn_nat (a := an_y (yd_a Y i)) (by omega)]
    refine i_rf (SM_y h4 v3).1 (i_ix (hx3 (k := 1) (by decide)) ?_)
    rw [(SM_r h4 hr).2, show zn cc + (1 : Int32) = zn (cc + 1) from zn_one cc]
    have fin : ∀ v : Nat, v = (if cc + 1 = pg_z P (an_r (yd_a Y i)) then 0 else cc + 1) → nb_X10_go_174 b o back post (uP u (1, 4)) (gNw G x 12 4) (wI M3 (sra S i) 3 (zn ((an_s (yd_a Y i) + tb (pg_t P (an_r (yd_a Y i)) cc)) % 4))) (zn i) (sra S i) (sry S (an_y (yd_a Y i))) (zn (an_x (yd_a Y i))) (zn v) := by
      intro v ev
      have g := g_174 (u := uP u (1, 4)) (b := b) (post := post) (kb56 := back) hb4 h4 (i := i) hi (v := v)
      rw [ya_at] at g
      refine g hN ⟨v1, v2, v3, Nat.mod_lt _ (by decide), v5, v6⟩ hB (fun G' M' rl' S' kp se hs => ?_)
      refine hk _ G' M' rl' S' (Or.inr rfl) (Kp_tr kp4 kp) se ?_
      rw [← ev]
      have e9 : aSet (pl_ (anSide ((an_s (yd_a Y i) + tb (pg_t P (an_r (yd_a Y i)) cc)) % 4) (yd_a Y i))) v (aAnt i (anSide ((an_s (yd_a Y i) + tb (pg_t P (an_r (yd_a Y i)) cc)) % 4) (yd_a Y i)) Y) = aAnt i (anSide ((an_s (yd_a Y i) + tb (pg_t P (an_r (yd_a Y i)) cc)) % 4) (yd_a Y i)) (aSet (pl_ (yd_a Y i)) v Y) := rfl
      rw [e9, aAnt_aAnt] at hs
      exact hs
    refine i_if (fun k2 => ?_) (fun k2 => ?_)
    · have e2 := (hlit (by omega) (by omega)).mp k2
      exact fin 0 (by rw [if_pos e2])
    · have e2 : ¬ cc + 1 = pg_z P (an_r (yd_a Y i)) := fun z => k2 (by rw [z])
      exact fin (cc + 1) (by rw [if_neg e2])
end SimGo2
