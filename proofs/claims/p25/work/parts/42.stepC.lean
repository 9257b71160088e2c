/-! a step: in words of numbers, and the class's -/
def aOne (Y : aY) : aY := (yd_c Y, yd_n Y, yd_a Y, yd_t Y, yd_m Y, yd_w Y, yd_k Y + 1)
/-- an order is carried out; whether it changed anything -/
def aCarry (P : aP) (k : Nat) (Y : aY) : aY × Bool :=
  if pg_k P k = 214 then (aWash (pg_f P k) (pg_s P k) Y, decide (0 < nz (yd_c Y) (64 * pg_f P k) (64 * (pg_s P k + 1 - pg_f P k))))
  else if pg_k P k = 216 then (if an_s (yd_a Y (pg_f P k)) = pg_s P k then (Y, false) else (aAnt (pg_f P k) (anFace (pg_s P k) (yd_a Y (pg_f P k))) Y, true))
  else (aAnt (pg_f P k) (anWalk (if pg_k P k = 218 then 1 else 0) (yd_a Y (pg_f P k))) Y, decide (an_w (yd_a Y (pg_f P k)) ≠ if pg_k P k = 218 then 1 else 0))
def aOrd (P : aP) (k : Nat) (Y : aY) : aY := if (evL Y (pg_T P k) []).headD 0 = 0 then Y else if (aCarry P k Y).2 then aOne (aCarry P k Y).1 else (aCarry P k Y).1
def aOrds (P : aP) (Y : aY) : Nat → aY
  | 0 => Y
  | k + 1 => aOrd P k (aOrds P Y k)
def aMv (P : aP) (i : Nat) (Y : aY) : aY := if an_w (yd_a Y i) = 0 then Y else aAnt i (anGo (pg_t P (an_r (yd_a Y i)) (yd_c Y (pl_ (yd_a Y i)) % pg_z P (an_r (yd_a Y i)))) (yd_a Y i)) (aSet (pl_ (yd_a Y i)) ((yd_c Y (pl_ (yd_a Y i)) + 1) % pg_z P (an_r (yd_a Y i))) Y)
def aMvs (P : aP) (Y : aY) : Nat → aY
  | 0 => Y
  | i + 1 => aMv P i (aMvs P Y i)
def aTick (Y : aY) : aY := (yd_c Y, yd_n Y, yd_a Y, yd_t Y + 1, yd_m Y, yd_w Y, yd_k Y)
def aStep (P : aP) (Y : aY) : aY := aTick (aMeet (aMvs P (aOrds P Y (pg_o P)) (yd_n Y)))
def aSteps (P : aP) (Y : aY) : Nat → aY
  | 0 => Y
  | k + 1 => aStep P (aSteps P Y k)
/-- ants' rules are rules -/
def vR (P : aP) (Y : aY) : Prop := ∀ i, i < yd_n Y → an_r (yd_a Y i) < pg_r P
section StepVal
variable {P : aP} {Y : aY} {n b k : Nat}
theorem aAnt_at {i j : Nat} {A : aA} : yd_a (aAnt i A Y) j = if j = i then A else yd_a Y j := rfl
theorem vY_ant {i : Nat} {A : aA} {b' : Nat} (hv : vY b Y) (hb : b ≤ b') (hA : vA A) (hn : an_n A ≤ b') : vY b' (aAnt i A Y) := by
  refine ⟨hv.1, hv.2.1, fun j hj => ?_⟩
  rw [aAnt_at]
  split
  · exact ⟨hA, hn⟩
  · have := hv.2.2 j hj
    exact ⟨this.1, Nat.le_trans this.2 hb⟩
theorem vR_ant {i : Nat} {A : aA} (hv : vR P Y) (hA : an_r A < pg_r P) : vR P (aAnt i A Y) := by
  intro j hj
  rw [aAnt_at]
  split
  · exact hA
  · exact hv j hj
theorem vA_face {A : aA} {s : Nat} (h : vA A) (hs : s < 4) : vA (anFace s A) := ⟨h.1, h.2.1, h.2.2.1, hs, h.2.2.2.2.1, h.2.2.2.2.2⟩
theorem vA_walk {A : aA} {w : Nat} (h : vA A) (hw : w < 2) : vA (anWalk w A) := ⟨h.1, h.2.1, h.2.2.1, h.2.2.2.1, hw, h.2.2.2.2.2⟩
theorem vA_move {A : aA} {x y : Nat} (h : vA A) (hx : x < 64) (hy : y < 64) : vA (anMove x y A) := ⟨h.1, hx, hy, h.2.2.2.1, h.2.2.2.2.1, h.2.2.2.2.2⟩
theorem vA_go {A : aA} {t : Nat} (h : vA A) : vA (anGo t A) := by
  have hs : (an_s A + tb t) % 4 < 4 := Nat.mod_lt _ (by decide)
  refine ⟨h.1, nx_lt h.2.1, ny_lt h.2.2.1, hs, h.2.2.2.2.1, fun k => ?_⟩
  show (if k = an_n A then (an_s A + tb t) % 4 else an_h A k) < 4
  split
  · exact hs
  · exact h.2.2.2.2.2 k
theorem aCarry_n : yd_n (aCarry P k Y).1 = yd_n Y := by
  unfold aCarry
  split
  · rfl
  · split
    · split <;> rfl
    · rfl
theorem aCarry_v (hP : vOrd (yd_n Y) (pg_k P k) (pg_f P k) (pg_s P k)) (hv : vY b Y) (hr : vR P Y) : vY b (aCarry P k Y).1 ∧ vR P (aCarry P k Y).1 := by
  unfold aCarry
  split
  · exact ⟨⟨cWash_lt hv.1, hv.2⟩, hr⟩
  · next h1 =>
    split
    · next h2 =>
      split
      · exact ⟨hv, hr⟩
      · unfold vOrd at hP
        have hf : pg_f P k < yd_n Y ∧ pg_s P k < 4 := by omega
        have hA := hv.2.2 _ hf.1
        exact ⟨vY_ant hv (Nat.le_refl _) (vA_face hA.1 hf.2) (Nat.zero_le _), vR_ant hr (hr _ hf.1)⟩
    · next h2 =>
      unfold vOrd at hP
      have hf : pg_f P k < yd_n Y := by omega
      have hA := hv.2.2 _ hf
      exact ⟨vY_ant hv (Nat.le_refl _) (vA_walk hA.1 (by split <;> decide)) hA.2, vR_ant hr (hr _ hf)⟩
theorem aOrd_n : yd_n (aOrd P k Y) = yd_n Y := by
  unfold aOrd
  split
  · rfl
  · split
    · exact aCarry_n
    · exact aCarry_n
theorem aOrd_v (hP : vOrd (yd_n Y) (pg_k P k) (pg_f P k) (pg_s P k)) (hv : vY b Y) (hr : vR P Y) : vY b (aOrd P k Y) ∧ vR P (aOrd P k Y) := by
  have h := aCarry_v hP hv hr
  unfold aOrd
  split
  · exact ⟨hv, hr⟩
  · split
    · exact h
    · exact h
theorem aOrds_n : ∀ k : Nat, yd_n (aOrds P Y k) = yd_n Y := by
  intro k
  induction k with
  | zero => rfl
  | succ k ih => rw [aOrds, aOrd_n, ih]
theorem aOrds_v (hP : vP (yd_n Y) P) (hv : vY b Y) (hr : vR P Y) : ∀ k : Nat, k ≤ pg_o P → vY b (aOrds P Y k) ∧ vR P (aOrds P Y k) := by
  intro k
  induction k with
  | zero => intro _; exact ⟨hv, hr⟩
  | succ k ih =>
    intro hk
    have := ih (by omega)
    exact aOrd_v (by rw [aOrds_n]; exact (hP.2.2.2.2.2 k (by omega)).1) this.1 this.2
theorem aMv_n {i : Nat} : yd_n (aMv P i Y) = yd_n Y := by
  unfold aMv
  split <;> rfl
theorem aMvs_n : ∀ i : Nat, yd_n (aMvs P Y i) = yd_n Y := by
  intro i
  induction i with
  | zero => rfl
  | succ i ih => rw [aMvs, aMv_n, ih]
/-- ants ahead of i have one step more at most -/
def vYi (b i : Nat) (Y : aY) : Prop := (∀ p, yd_c Y p < 6) ∧ yd_n Y ≤ 6 ∧ ∀ j, j < yd_n Y → vA (yd_a Y j) ∧ an_n (yd_a Y j) ≤ if j < i then b + 1 else b
theorem aMv_v {i : Nat} (hP : vP n P) (hv : vYi b i Y) (hr : vR P Y) (hi : i < yd_n Y) : vYi b (i + 1) (aMv P i Y) ∧ vR P (aMv P i Y) := by
  have hA := hv.2.2 i hi
  rw [if_neg (by omega)] at hA
  have hri := hr i hi
  have hz := hP.2.1 _ hri
  unfold aMv
  split
  · refine ⟨⟨hv.1, hv.2.1, fun j hj => ⟨(hv.2.2 j hj).1, ?_⟩⟩, hr⟩
    have := (hv.2.2 j hj).2
    split at this
    · rw [if_pos (by omega)]; exact this
    · split <;> omega
  · refine ⟨⟨cSet_lt hv.1 (Nat.lt_of_lt_of_le (Nat.mod_lt _ (by omega)) hz.2), hv.2.1, fun j hj => ?_⟩, vR_ant hr hri⟩
    rw [aAnt_at]
    by_cases e : j = i
    · rw [if_pos e, if_pos (by omega)]
      exact ⟨vA_go hA.1, Nat.succ_le_succ hA.2⟩
    · rw [if_neg e]
      refine ⟨(hv.2.2 j hj).1, ?_⟩
      have := (hv.2.2 j hj).2
      split at this
      · rw [if_pos (by omega)]; exact this
      · rw [if_neg (by omega)]; exact this
theorem aMvs_v (hP : vP n P) (hv : vY b Y) (hr : vR P Y) : ∀ i : Nat, i ≤ yd_n Y → vYi b i (aMvs P Y i) ∧ vR P (aMvs P Y i) := by
  intro i
  induction i with
  | zero => intro _; exact ⟨⟨hv.1, hv.2.1, fun j hj => by rw [if_neg (by omega)]; exact hv.2.2 j hj⟩, hr⟩
  | succ i ih =>
    intro hi
    have := ih (by omega)
    exact aMv_v hP this.1 this.2 (by rw [aMvs_n]; omega)
theorem vYi_v {i : Nat} (h : vYi b i Y) : vY (b + 1) Y := ⟨h.1, h.2.1, fun j hj => ⟨(h.2.2 j hj).1, by have := (h.2.2 j hj).2; split at this <;> omega⟩⟩
theorem aStep_n : yd_n (aStep P Y) = yd_n Y := by
  show yd_n (aMvs P (aOrds P Y (pg_o P)) (yd_n Y)) = _
  rw [aMvs_n, aOrds_n]
theorem aStep_v (hP : vP (yd_n Y) P) (hv : vY b Y) (hr : vR P Y) : vY (b + 1) (aStep P Y) ∧ vR P (aStep P Y) := by
  have h1 := aOrds_v hP hv hr (pg_o P) (Nat.le_refl _)
  have h2 := aMvs_v hP h1.1 h1.2 (yd_n Y) (by rw [aOrds_n]; exact Nat.le_refl _)
  exact ⟨vYi_v h2.1, h2.2⟩
theorem aSteps_n : ∀ k : Nat, yd_n (aSteps P Y k) = yd_n Y := by
  intro k
  induction k with
  | zero => rfl
  | succ k ih => rw [aSteps, aStep_n, ih]
theorem aSteps_v (hP : vP (yd_n Y) P) (hv : vY b Y) (hr : vR P Y) : ∀ k : Nat, vY (b + k) (aSteps P Y k) ∧ vR P (aSteps P Y k) := by
  intro k
  induction k with
  | zero => exact ⟨hv, hr⟩
  | succ k ih => exact aStep_v (by rw [aSteps_n]; exact hP) ih.1 ih.2
end StepVal
section StepSpecs
variable {G : gS} {ad : Nat → Nat} {M : mS} {y : Nat} {P : aP} {Y : aY} {b : Nat}
def TSh (G : gS) (ad : Nat → Nat) : Prop := gP G (ad 63) 0 = some (ad 3) ∧ gP G (ad 63) 1 = some (ad 64)
theorem cY_ant7 (hA : Inj ad) {i : Nat} {A : aA} (hn : yd_n Y ≤ 6) (hi : i < yd_n Y) (hc : cY ad M y Y) {M' : mS} (h1 : cA ad M' (y + 5 + 2 * i) A) (h2 : Fr (Bk ad (y + 5 + 2 * i) (y + 5 + 2 * i + 2)) M M') : cY ad M' y (aAnt i A Y) ∧ Fr (SB ad y) M M' := ⟨cY_ant1 hA hn hi hc h1 h2, SB_y h2 (by omega) (by omega)⟩
theorem c_carry (hA : Inj ad) (hT : TSh G ad) (hS : YSh G ad y) (hP : PSh G ad 3) (hy : y + 17 ≤ 64) (hp : 12 ≤ y) (hv : vY b Y) (hb : b < 1000000000) (hvP : vP (yd_n Y) P) (hc : cY ad M y Y) (hcP : cP ad M 3 P) {k : Nat} (hk : k < pg_o P) : p_cl (m_X5_carryOut G M (ad 63) (zn k) (ad y)) (fun M' r => (r = if (aCarry P k Y).2 then 1 else 0) ∧ cY ad M' y (aCarry P k Y).1 ∧ Fr (SB ad y) M M') := by
  have h20 := hvP.2.2.2.1
  have hO := (hvP.2.2.2.2.2 k hk).1
  have hn := hv.2.1
  obtain ⟨c1, c2, c3, c4⟩ := hcP.2.2.2.1 k hk
  unfold vOrd at hO
  unfold m_X5_carryOut
  refine c_rf hT.1 (c_rf hP.1.2.2.2.1 (c_ix (by rw [hP.2.2.2.2.1]; exact zn_in (by omega) (by decide)) (c_bd (c_rf hT.1 (c_rf hP.1.2.2.2.2.1 (c_ix (by rw [hP.2.2.2.2.2.1]; exact zn_in (by omega) (by decide)) (c_bd (c_rf hT.1 (c_rf hP.1.2.2.1 (c_ix (by rw [hP.2.2.2.1]; exact zn_in (by omega) (by decide)) (c_bd ?_)))))))))))
  rw [zn_nat (by omega), c1, c2, c3]
  have e1 : (zn (pg_k P k) = 214) ↔ pg_k P k = 214 := zn_inj (b := 214) (by omega) (by decide)
  have e2 : (zn (pg_k P k) = 216) ↔ pg_k P k = 216 := zn_inj (b := 216) (by omega) (by decide)
  have e3 : (zn (pg_k P k) = 218) ↔ pg_k P k = 218 := zn_inj (b := 218) (by omega) (by decide)
  unfold aCarry
  refine c_if (fun g => ?_) (fun g => ?_)
  · have g2 := e1.mp g
    rw [if_pos g2]
    refine c_clm (cY_wash hA hS hv hc (r := pg_f P k) (t := pg_s P k) (by omega) (by omega)) ?_
    rintro M1 r ⟨rfl, h1, h2⟩
    have hle := nz_le (c := yd_c Y) (b := 64 * pg_f P k) (64 * (pg_s P k + 1 - pg_f P k))
    refine c_if (fun z => ?_) (fun z => ?_)
    · rw [show (0 : Int32) = zn 0 from rfl, zn_le (by omega) (by omega)] at z
      exact c_ck (Or.inl rfl) (c_some ⟨by rw [if_neg (by simpa using z)], h1, SB_y h2 (by omega) (by omega)⟩)
    · rw [show (0 : Int32) = zn 0 from rfl, zn_le (by omega) (by omega)] at z
      exact c_ck (Or.inr rfl) (c_some ⟨by rw [if_pos (by simpa using Nat.lt_of_not_le z)], h1, SB_y h2 (by omega) (by omega)⟩)
  · have g2 : ¬ pg_k P k = 214 := fun h => g (e1.mpr h)
    rw [if_neg g2]
    have hf : pg_f P k < yd_n Y := by omega
    have hci := hc.2.2 _ hf
    have hvi := hv.2.2 _ hf
    rw [c_hasAnt hn hc.2.1, if_neg (by rintro (h | h); exact zn_nn (by omega) h; exact absurd ((zn_le (by omega) (by omega)).mp h) (by omega))]
    refine c_cl (c_some (c_f (by decide) (c_rf hS.2.2.2.1 (c_ix (by rw [hS.2.2.2.2.2.2.2.2.1]; exact zn_in (by omega) (by decide)) ?_))))
    rw [zn_nat (by omega)]
    refine c_rf (hS.2.2.2.2.1 _ (by omega)) ?_
    refine c_if (fun z => ?_) (fun z => ?_)
    · have z2 := e2.mp z
      rw [if_pos z2]
      have hs : pg_s P k < 4 := by omega
      unfold m_X5_faceOther
      rw [hci.1.2.2.2.1]
      have e4 : (zn (an_s (yd_a Y (pg_f P k))) = zn (pg_s P k)) ↔ an_s (yd_a Y (pg_f P k)) = pg_s P k := zn_inj (by have := hvi.1.2.2.2.1; omega) (by omega)
      by_cases q : an_s (yd_a Y (pg_f P k)) = pg_s P k
      · rw [if_pos q]
        exact c_cl (c_t (e4.mpr q) (c_ck (Or.inl rfl) (c_some (c_ck (Or.inl rfl) (c_some ⟨rfl, hc, Fr_rf⟩)))))
      · rw [if_neg q]
        refine c_cl (c_f (fun h => q (e4.mp h)) (c_clm (cA_face hA hci) ?_))
        rintro M1 _ ⟨h1, h2⟩
        have h3 := cY_ant7 hA hn hf hc h1 h2
        exact c_ck (Or.inr rfl) (c_some (c_ck (Or.inr rfl) (c_some ⟨rfl, h3.1, h3.2⟩)))
    · have z2 : ¬ pg_k P k = 216 := fun h => z (e2.mpr h)
      rw [if_neg z2]
      have fin : ∀ w : Nat, w < 2 → p_cl (m_X5_carryOut_103 G (ad 63) (zn k) (ad y) M (ad (y + 5 + 2 * pg_f P k)) (zn w)) (fun M' r => (r = if decide (an_w (yd_a Y (pg_f P k)) ≠ w) then 1 else 0) ∧ cY ad M' y (aAnt (pg_f P k) (anWalk w (yd_a Y (pg_f P k))) Y) ∧ Fr (SB ad y) M M') := by
        intro w hw
        have h120 : ∀ e : Int32, (e = if decide (an_w (yd_a Y (pg_f P k)) ≠ w) then 1 else 0) → p_cl (m_X5_carryOut_120 G (ad 63) (zn k) (ad y) M (ad (y + 5 + 2 * pg_f P k)) (zn w) e) (fun M' r => (r = if decide (an_w (yd_a Y (pg_f P k)) ≠ w) then 1 else 0) ∧ cY ad M' y (aAnt (pg_f P k) (anWalk w (yd_a Y (pg_f P k))) Y) ∧ Fr (SB ad y) M M') := by
          intro e he
          unfold m_X5_carryOut_120
          refine c_ck (by rcases (show w = 0 ∨ w = 1 by omega) with rfl | rfl; exact Or.inl rfl; exact Or.inr rfl) (c_wI (c_ck (by rw [he]; exact b01) (c_some ⟨he, ?_⟩)))
          have hne : ad (y + 5 + 2 * pg_f P k + 1) ≠ ad (y + 5 + 2 * pg_f P k) := ad_ne hA (by omega)
          refine cY_ant7 hA hn hf hc ?_ (Fr_wI Fr_rf (Bk_in (by omega) (by omega)))
          obtain ⟨⟨h0, h1, h2, h3, h4, h5, h6, h8⟩, h7⟩ := hci
          unfold cA cA0
          simp only [mI_wI, upd_at, hne, reduceIte, Nat.reduceEqDiff]
          exact ⟨⟨h0, h1, h2, h3, rfl, h5, h6, h8⟩, h7⟩
        unfold m_X5_carryOut_103
        rw [hci.1.2.2.2.2.1]
        have e4 : (zn (an_w (yd_a Y (pg_f P k))) = zn w) ↔ an_w (yd_a Y (pg_f P k)) = w := zn_inj (by have := hvi.1.2.2.2.2.1; omega) (by omega)
        refine c_if (fun q => ?_) (fun q => ?_)
        · exact h120 0 (by rw [if_neg (by simpa using e4.mp q)])
        · exact h120 1 (by rw [if_pos (by simpa using fun h => q (e4.mpr h))])
      refine c_if (fun q => ?_) (fun q => ?_)
      · rw [if_pos (e3.mp q)]
        exact fin 1 (by decide)
      · rw [if_neg (fun h => q (e3.mpr h))]
        exact fin 0 (by decide)
theorem cY_one (hA : Inj ad) (hn : yd_n Y ≤ 6) (hc : cY ad M y Y) : cY ad (wI M (ad y) 8 (mI M (ad y) 8 + 1)) y (aOne Y) ∧ Fr (SB ad y) M (wI M (ad y) 8 (mI M (ad y) 8 + 1)) := by
  have hF : Fr (Bk ad y (y + 1)) M (wI M (ad y) 8 (mI M (ad y) 8 + 1)) := Fr_wI Fr_rf (Bk_in (by omega) (by omega))
  refine ⟨⟨cYc_Fr hA hc.1 hF (by omega), ?_, cYa_Fr hA hc.2.2 hF (by omega)⟩, SB_y hF (by omega) (by omega)⟩
  obtain ⟨f4, f5, f6, f7, f8⟩ := hc.2.1
  unfold cYf
  simp only [mI_wI, upd_at, reduceIte, Nat.reduceEqDiff, f8, zn_one]
  exact ⟨f4, f5, f6, f7, rfl⟩
theorem c_move (hA : Inj ad) (hT : TSh G ad) (hS : YSh G ad y) (hP : PSh G ad 3) (hy : y + 17 ≤ 64) (hp : 12 ≤ y) {i n : Nat} (hv : vYi b i Y) (hb : b < 900000000) (hvP : vP n P) (hr : vR P Y) (hc : cY ad M y Y) (hcP : cP ad M 3 P) (hi : i < yd_n Y) (hw : an_w (yd_a Y i) ≠ 0) : p_cl (m_X5_moveAnt G M (ad 63) (ad (y + 5 + 2 * i)) (ad y)) (fun M' _ => cY ad M' y (aMv P i Y) ∧ Fr (SB ad y) M M') := by
  have hn := hv.2.1
  have hci := hc.2.2 i hi
  have hvi := hv.2.2 i hi
  rw [if_neg (by omega)] at hvi
  have hri := hr i hi
  have hz := hvP.2.1 _ hri
  have h5 := hvP.1
  have hpl := pl_lt hvi.1
  have hcol := hv.1 (pl_ (yd_a Y i))
  unfold m_X5_moveAnt
  rw [c_under hci.1]
  refine c_cl (c_some ?_)
  rw [show zn (64 * an_y (yd_a Y i) + an_x (yd_a Y i)) = zn (pl_ (yd_a Y i)) from rfl, c_colourAt hS hc.1 hpl]
  refine c_cl (c_some (c_rf hT.1 ?_))
  rw [hci.1.1, c_turn hP hvP hcP hri (by omega)]
  refine c_cl (c_some (c_rf hT.1 ?_))
  rw [hci.1.1, zn_one, c_rem hP hvP hcP hri (by omega)]
  refine c_cl (c_some (c_clm (cYc_set hA hS hc.1 hv.1 hpl (Nat.lt_of_lt_of_le (Nat.mod_lt _ (by omega)) hz.2)) ?_))
  rintro M1 _ ⟨h1, h2⟩
  have hci1 := cA_Fr hA hci h2 (by omega)
  refine c_clm (cA_go hA (hS.2.2.2.2.2.2.2.2.2 i (by omega)) hci1 hvi.1 (by omega) (hvP.2.2.1 _ _)) ?_
  rintro M2 _ ⟨h3, h4⟩
  have hc1 : cY ad M1 y (aSet (pl_ (yd_a Y i)) ((yd_c Y (pl_ (yd_a Y i)) + 1) % pg_z P (an_r (yd_a Y i))) Y) := ⟨h1, cYf_Fr hA hc.2.1 h2 (by omega), cYa_Fr hA hc.2.2 h2 (by omega)⟩
  have h5 := cY_ant7 (Y := aSet (pl_ (yd_a Y i)) ((yd_c Y (pl_ (yd_a Y i)) + 1) % pg_z P (an_r (yd_a Y i))) Y) hA hn hi hc1 h3 h4
  refine c_some ⟨?_, Fr_tr (SB_y h2 (by omega) (by omega)) h5.2⟩
  unfold aMv
  rw [if_neg hw]
  exact h5.1
theorem c_moves (hA : Inj ad) (hT : TSh G ad) (hS : YSh G ad y) (hP : PSh G ad 3) (hy : y + 17 ≤ 64) (hp : 12 ≤ y) {n : Nat} {Y0 : aY} (hv0 : vY b Y0) (hr0 : vR P Y0) (hb : b < 900000000) (hvP : vP n P) : ∀ (d i f : Nat) (M : mS), i + d = yd_n Y0 → d < f → cY ad M y (aMvs P Y0 i) → cP ad M 3 P → p_cl (m_X5_makeStep_62 G (ad 63) (ad y) f M (zn i)) (fun M' _ => cY ad M' y (aTick (aMeet (aMvs P Y0 (yd_n Y0)))) ∧ Fr (SB ad y) M M') := by
  intro d
  induction d with
  | zero =>
    intro i f M hi hf hc hcP
    obtain ⟨f, rfl⟩ : ∃ g, f = g + 1 := ⟨f - 1, by omega⟩
    have hi : i = yd_n Y0 := by omega
    subst hi
    have hv := aMvs_v hvP hv0 hr0 (yd_n Y0) (Nat.le_refl _)
    rw [m_X5_makeStep_62, hc.2.1.1, aMvs_n]
    refine c_t (Int32.le_refl _) ?_
    unfold m_X5_makeStep_105
    refine c_clm (cY_meet hA hS (vYi_v hv.1) hc) ?_
    rintro M1 _ ⟨h1, h2⟩
    have hF : ∀ v, Fr (Bk ad y (y + 1)) M1 (wI M1 (ad y) 5 v) := fun v => Fr_wI Fr_rf (Bk_in (by omega) (by omega))
    have hn6 : yd_n (aMvs P Y0 (yd_n Y0)) ≤ 6 := hv.1.2.1
    refine c_wI (c_some ⟨⟨cYc_Fr hA h1.1 (hF _) (by omega), ?_, cYa_Fr hA h1.2.2 (hF _) (by omega)⟩, Fr_tr (SB_y h2 (by omega) (by omega)) (SB_y (hF _) (by omega) (by omega))⟩)
    obtain ⟨f4, f5, f6, f7, f8⟩ := h1.2.1
    unfold cYf
    simp only [mI_wI, upd_at, reduceIte, Nat.reduceEqDiff, f5, zn_one]
    exact ⟨f4, rfl, f6, f7, f8⟩
  | succ d ih =>
    intro i f M hi hf hc hcP
    obtain ⟨f, rfl⟩ : ∃ g, f = g + 1 := ⟨f - 1, by omega⟩
    have hv := aMvs_v hvP hv0 hr0 i (by omega)
    have hn := hv0.2.1
    have hin : i < yd_n (aMvs P Y0 i) := by rw [aMvs_n]; omega
    rw [m_X5_makeStep_62, hc.2.1.1, aMvs_n]
    refine c_f (by rw [zn_le (by omega) (by omega)]; omega) (c_f (by rw [show (6 : Int32) = zn 6 from rfl, zn_le (by omega) (by omega)]; omega) (c_rf hS.2.2.2.1 (c_ix (by rw [hS.2.2.2.2.2.2.2.2.1]; exact zn_in (by omega) (by decide)) ?_)))
    rw [zn_nat (by omega)]
    refine c_rf (hS.2.2.2.2.1 i (by omega)) ?_
    rw [(hc.2.2 i hin).1.2.2.2.2.1]
    have hw2 := (hv.1.2.2 i hin).1.2.2.2.2.1
    have e0 : (zn (an_w (yd_a (aMvs P Y0 i) i)) = 0) ↔ an_w (yd_a (aMvs P Y0 i) i) = 0 := zn_inj (b := 0) (by omega) (by decide)
    refine c_if (fun q => ?_) (fun q => ?_)
    · unfold m_X5_makeStep_99
      refine c_bd ?_
      dsimp only
      rw [zn_one]
      refine ih (i + 1) f M (by omega) (by omega) ?_ hcP
      rw [aMvs]
      unfold aMv
      rw [if_pos (e0.mp q)]
      exact hc
    · refine c_rf hS.2.2.2.1 (c_ix (by rw [hS.2.2.2.2.2.2.2.2.1]; exact zn_in (by omega) (by decide)) (c_rf (hS.2.2.2.2.1 i (by omega)) (c_clm (c_move hA hT hS hP hy hp hv.1 hb hvP hv.2 hc hcP hin (fun h => q (e0.mpr h))) ?_)))
      rintro M1 _ ⟨h1, h2⟩
      unfold m_X5_makeStep_99
      refine c_bd ?_
      dsimp only
      rw [zn_one]
      refine c_mono (ih (i + 1) f M1 (by omega) (by omega) h1 (cP_SB hA hcP h2 (by omega) (by omega))) ?_
      rintro M2 _ ⟨h3, h4⟩
      exact ⟨h3, Fr_tr h2 h4⟩
theorem c_orders (hA : Inj ad) (hT : TSh G ad) (hS : YSh G ad y) (hR : RSh G ad 64) (hP : PSh G ad 3) (hy : y + 17 ≤ 63) (hp : 12 ≤ y) {Y0 : aY} (hv0 : vY b Y0) (hr0 : vR P Y0) (hb : b < 900000000) (hvP : vP (yd_n Y0) P) : ∀ (d k f : Nat) (M : mS), k + d = pg_o P → d < f → cY ad M y (aOrds P Y0 k) → cP ad M 3 P → p_cl (m_X5_makeStep_2 G (ad 63) (ad y) f M (zn k)) (fun M' _ => cY ad M' y (aStep P Y0) ∧ Fr (SB ad y) M M') := by
  intro d
  induction d with
  | zero =>
    intro k f M hk hf hc hcP
    obtain ⟨f, rfl⟩ : ∃ g, f = g + 1 := ⟨f - 1, by omega⟩
    have hk : k = pg_o P := by omega
    subst hk
    have h := aOrds_v hvP hv0 hr0 (pg_o P) (Nat.le_refl _)
    rw [m_X5_makeStep_2]
    refine c_rf hT.1 ?_
    rw [hcP.1.2.1]
    refine c_t (Int32.le_refl _) ?_
    unfold m_X5_makeStep_60
    have := c_moves hA hT hS hP (by omega) hp h.1 h.2 hb hvP (yd_n Y0) 0 fu M (by rw [aOrds_n]; omega) (by have := hv0.2.1; unfold fu; omega) hc hcP
    rw [aOrds_n] at this
    exact this
  | succ d ih =>
    intro k f M hk hf hc hcP
    obtain ⟨f, rfl⟩ : ∃ g, f = g + 1 := ⟨f - 1, by omega⟩
    have h20 := hvP.2.2.2.1
    have h := aOrds_v hvP hv0 hr0 k (by omega)
    have hvPk : vP (yd_n (aOrds P Y0 k)) P := by rw [aOrds_n]; exact hvP
    rw [m_X5_makeStep_2]
    refine c_rf hT.1 ?_
    rw [hcP.1.2.1]
    refine c_f (by rw [zn_le (by omega) (by omega)]; omega) (c_f (by rw [show (20 : Int32) = zn 20 from rfl, zn_le (by omega) (by omega)]; omega) (c_rf hT.2 (c_rf hT.1 (c_clm (c_holds hA hS hR hP (by omega) (by omega) h.1 (by omega) hvPk hc hcP (k := k) (by omega)) ?_))))
    rintro M1 r ⟨h1, h2, h3, h4⟩
    have hcP1 := cP_SB hA hcP h4 (by omega) (by omega)
    have go : ∀ (M2 : mS), cY ad M2 y (aOrd P k (aOrds P Y0 k)) → Fr (SB ad y) M1 M2 → p_cl (m_X5_makeStep_54 G (ad 63) (ad y) (fun M v2 => m_X5_makeStep_2 G (ad 63) (ad y) f M v2) M2 (zn k)) (fun M' _ => cY ad M' y (aStep P Y0) ∧ Fr (SB ad y) M M') := by
      intro M2 g1 g2
      unfold m_X5_makeStep_54
      refine c_bd ?_
      dsimp only
      rw [zn_one]
      refine c_mono (ih (k + 1) f M2 (by omega) (by omega) g1 (cP_SB hA hcP1 g2 (by omega) (by omega))) ?_
      rintro M3 _ ⟨g3, g4⟩
      exact ⟨g3, Fr_tr h4 (Fr_tr g2 g4)⟩
    by_cases hh : aHolds P k (aOrds P Y0 k)
    · rw [h1 hh]
      refine c_f (by decide) (c_clm (c_carry hA hT hS hP (by omega) hp h.1 (by omega) hvPk h3 hcP1 (k := k) (by omega)) ?_)
      rintro M2 r ⟨rfl, g1, g2⟩
      have eO : aOrd P k (aOrds P Y0 k) = if (aCarry P k (aOrds P Y0 k)).2 then aOne (aCarry P k (aOrds P Y0 k)).1 else (aCarry P k (aOrds P Y0 k)).1 := by
        rw [aOrd, if_neg hh]
      cases hcc : (aCarry P k (aOrds P Y0 k)).2 with
      | true =>
        rw [hcc] at eO
        refine c_f (by decide) (c_wI ?_)
        have hn : yd_n (aCarry P k (aOrds P Y0 k)).1 ≤ 6 := by rw [aCarry_n, aOrds_n]; exact hv0.2.1
        have q := cY_one hA hn g1
        exact go _ (by rw [eO]; exact q.1) (Fr_tr g2 q.2)
      | false =>
        rw [hcc] at eO
        exact c_t (by decide) (go _ (by rw [eO]; exact g1) g2)
    · rw [h2 hh]
      refine c_t rfl (go M1 ?_ Fr_rf)
      rw [aOrd, if_pos (Decidable.not_not.mp hh)]
      exact h3
theorem c_step (hA : Inj ad) (hT : TSh G ad) (hS : YSh G ad y) (hR : RSh G ad 64) (hP : PSh G ad 3) (hy : y + 17 ≤ 63) (hp : 12 ≤ y) (hv : vY b Y) (hr : vR P Y) (hb : b < 900000000) (hvP : vP (yd_n Y) P) (hc : cY ad M y Y) (hcP : cP ad M 3 P) : p_cl (m_X5_makeStep G M (ad 63) (ad y)) (fun M' _ => cY ad M' y (aStep P Y) ∧ cP ad M' 3 P ∧ Fr (SB ad y) M M') := by
  unfold m_X5_makeStep
  refine c_mono (c_orders hA hT hS hR hP hy hp hv hr hb hvP (pg_o P) 0 fu M (by omega) (by have := hvP.2.2.2.1; unfold fu; omega) hc hcP) ?_
  rintro M1 _ ⟨h1, h2⟩
  exact ⟨h1, cP_SB hA hcP h2 (by omega) (by omega), h2⟩
theorem c_steps_loop (hA : Inj ad) (hT : TSh G ad) (hS : YSh G ad y) (hR : RSh G ad 64) (hP : PSh G ad 3) (hy : y + 17 ≤ 63) (hp : 12 ≤ y) {Y0 : aY} (hv0 : vY b Y0) (hr0 : vR P Y0) (hvP : vP (yd_n Y0) P) {t : Nat} (ht : t ≤ 5000) (hb : b + t < 900000000) : ∀ (d k f : Nat) (M : mS), k + d = t → d < f → cY ad M y (aSteps P Y0 k) → cP ad M 3 P → p_cl (m_X5_makeSteps_2 G (ad 63) (ad y) (zn t) f M (zn k)) (fun M' _ => cY ad M' y (aSteps P Y0 t) ∧ cP ad M' 3 P ∧ Fr (SB ad y) M M') := by
  intro d
  induction d with
  | zero =>
    intro k f M hk hf hc hcP
    obtain ⟨f, rfl⟩ : ∃ g, f = g + 1 := ⟨f - 1, by omega⟩
    have hk : k = t := by omega
    subst hk
    rw [m_X5_makeSteps_2]
    exact c_t (Int32.le_refl _) (c_some ⟨hc, hcP, Fr_rf⟩)
  | succ d ih =>
    intro k f M hk hf hc hcP
    obtain ⟨f, rfl⟩ : ∃ g, f = g + 1 := ⟨f - 1, by omega⟩
    have h := aSteps_v hvP hv0 hr0 k
    rw [m_X5_makeSteps_2]
    refine c_f (by rw [zn_le (by omega) (by omega)]; omega) (c_clm (c_step hA hT hS hR hP hy hp h.1 h.2 (by omega) (by rw [aSteps_n]; exact hvP) hc hcP) ?_)
    rintro M1 _ ⟨g1, g2, g3⟩
    refine c_bd ?_
    rw [zn_one]
    refine c_mono (ih (k + 1) f M1 (by omega) (by omega) g1 g2) ?_
    rintro M2 _ ⟨e1, e2, e3⟩
    exact ⟨e1, e2, Fr_tr g3 e3⟩
theorem c_steps (hA : Inj ad) (hT : TSh G ad) (hS : YSh G ad y) (hR : RSh G ad 64) (hP : PSh G ad 3) (hy : y + 17 ≤ 63) (hp : 12 ≤ y) (hv : vY b Y) (hr : vR P Y) (hvP : vP (yd_n Y) P) {t : Nat} (ht : t ≤ 5000) (hb : b + t < 900000000) (hc : cY ad M y Y) (hcP : cP ad M 3 P) : p_cl (m_X5_makeSteps G M (ad 63) (ad y) (zn t)) (fun M' _ => cY ad M' y (aSteps P Y t) ∧ cP ad M' 3 P ∧ Fr (SB ad y) M M') :=
  c_steps_loop hA hT hS hR hP hy hp hv hr hvP ht hb t 0 fu M (by omega) (by unfold fu; omega) hc hcP
end StepSpecs
