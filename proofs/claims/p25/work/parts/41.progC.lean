/-! programs: in words of numbers, and the class's -/
/-- rules, sizes, turns; orders, kinds, firsts, seconds, tests -/
abbrev aP : Type := Nat × (Nat → Nat) × (Nat → Nat → Nat) × Nat × (Nat → Nat) × (Nat → Nat) × (Nat → Nat) × (Nat → List aO)
abbrev pg_r (P : aP) : Nat := P.1
abbrev pg_z (P : aP) : Nat → Nat := P.2.1
abbrev pg_t (P : aP) : Nat → Nat → Nat := P.2.2.1
abbrev pg_o (P : aP) : Nat := P.2.2.2.1
abbrev pg_k (P : aP) : Nat → Nat := P.2.2.2.2.1
abbrev pg_f (P : aP) : Nat → Nat := P.2.2.2.2.2.1
abbrev pg_s (P : aP) : Nat → Nat := P.2.2.2.2.2.2.1
abbrev pg_T (P : aP) : Nat → List aO := P.2.2.2.2.2.2.2
def off (T : Nat → List aO) : Nat → Nat
  | 0 => 0
  | k + 1 => off T k + (T k).length
theorem off_mono {T : Nat → List aO} {j : Nat} : ∀ k : Nat, j ≤ k → off T j ≤ off T k := by
  intro k
  induction k with
  | zero => intro h; rw [show j = 0 by omega]; exact Nat.le_refl _
  | succ k ih =>
    intro h
    by_cases e : j = k + 1
    · rw [e]; exact Nat.le_refl _
    · have := ih (by omega)
      rw [off]
      omega
def vOrd (n k f s : Nat) : Prop := (k = 214 ∧ f ≤ s ∧ s < 64) ∨ (k = 216 ∧ f < n ∧ s < 4) ∨ ((k = 217 ∨ k = 218) ∧ f < n)
def vP (n : Nat) (P : aP) : Prop := pg_r P ≤ 5 ∧ (∀ r, r < pg_r P → 1 ≤ pg_z P r ∧ pg_z P r ≤ 6) ∧ (∀ r k, pg_t P r k < 4) ∧ pg_o P ≤ 20 ∧ off (pg_T P) (pg_o P) ≤ 400 ∧ ∀ k, k < pg_o P → vOrd n (pg_k P k) (pg_f P k) (pg_s P k) ∧ tyL n (pg_T P k) [] = some [true]
def PSh (G : gS) (ad : Nat → Nat) (p : Nat) : Prop := (gP G (ad p) 1 = some (ad (p + 1)) ∧ gP G (ad p) 2 = some (ad (p + 2)) ∧ gP G (ad p) 4 = some (ad (p + 3)) ∧ gP G (ad p) 5 = some (ad (p + 4)) ∧ gP G (ad p) 6 = some (ad (p + 5)) ∧ gP G (ad p) 7 = some (ad (p + 6)) ∧ gP G (ad p) 9 = some (ad (p + 7)) ∧ gP G (ad p) 10 = some (ad (p + 8))) ∧ gN G (ad (p + 1)) = 5 ∧ gN G (ad (p + 2)) = 30 ∧ gN G (ad (p + 3)) = 20 ∧ gN G (ad (p + 4)) = 20 ∧ gN G (ad (p + 5)) = 20 ∧ gN G (ad (p + 6)) = 20 ∧ gN G (ad (p + 7)) = 400 ∧ gN G (ad (p + 8)) = 400
def cP (ad : Nat → Nat) (M : mS) (p : Nat) (P : aP) : Prop := (mI M (ad p) 0 = zn (pg_r P) ∧ mI M (ad p) 3 = zn (pg_o P) ∧ mI M (ad p) 8 = zn (off (pg_T P) (pg_o P))) ∧ (∀ r, r < pg_r P → mI M (ad (p + 1)) r = zn (pg_z P r)) ∧ (∀ r, r < pg_r P → ∀ k, k < pg_z P r → mI M (ad (p + 2)) (6 * r + k) = zn (pg_t P r k)) ∧ (∀ k, k < pg_o P → mI M (ad (p + 3)) k = zn (pg_k P k) ∧ mI M (ad (p + 4)) k = zn (pg_f P k) ∧ mI M (ad (p + 5)) k = zn (pg_s P k) ∧ mI M (ad (p + 6)) k = zn (off (pg_T P) (k + 1))) ∧ ∀ k, k < pg_o P → ∀ j, j < (pg_T P k).length → mI M (ad (p + 7)) (off (pg_T P) k + j) = zn ((pg_T P k).getD j (0, 0)).1 ∧ mI M (ad (p + 8)) (off (pg_T P) k + j) = ((pg_T P k).getD j (0, 0)).2
section ProgSpecs
variable {G : gS} {ad : Nat → Nat} {M : mS} {p y : Nat} {P : aP} {Y : aY} {n : Nat}
theorem cP_keep {M' : mS} (h : cP ad M p P) (hF : ∀ k, p ≤ k → k < p + 9 → mI M' (ad k) = mI M (ad k)) : cP ad M' p P := by
  unfold cP
  rw [hF p (by omega) (by omega), hF (p + 1) (by omega) (by omega), hF (p + 2) (by omega) (by omega), hF (p + 3) (by omega) (by omega), hF (p + 4) (by omega) (by omega), hF (p + 5) (by omega) (by omega), hF (p + 6) (by omega) (by omega), hF (p + 7) (by omega) (by omega), hF (p + 8) (by omega) (by omega)]
  exact h
theorem cP_Fr (hA : Inj ad) {lo hi : Nat} {M' : mS} (h : cP ad M p P) (hF : Fr (Bk ad lo hi) M M') (hd : p + 9 ≤ lo ∨ hi ≤ p) : cP ad M' p P := cP_keep h (fun k h1 h2 => Fr_I hA hF (by omega))
theorem zn_mod {a b : Nat} (ha : a < 2147483648) (hb : b < 2147483648) : zn a - zn a / zn b * zn b = zn (a % b) := by
  have h1 : a / b * b ≤ a := Nat.div_mul_le_self a b
  have h2 := Nat.div_add_mod a b
  rw [zn_div ha hb, zn_mul, zn_sub h1]
  congr 1
  rw [Nat.mul_comm] at h2
  omega
theorem c_rem (hS : PSh G ad p) (hv : vP n P) (hc : cP ad M p P) {r c : Nat} (hr : r < pg_r P) (hcc : c < 1000) : m_X3_remainder G M (ad p) (zn r) (zn c) = some (M, zn (c % pg_z P r)) := by
  have h5 := hv.1
  have hz := hv.2.1 r hr
  unfold m_X3_remainder
  rw [if_neg (zn_nn (by omega)), hc.1.1, if_neg (by rw [zn_le (by omega) (by omega)]; omega), hS.1.1]
  unfold o_rf o_ix
  dsimp only
  rw [hS.2.1, if_neg (show ¬ (zn r < 0 ∨ 5 ≤ (zn r).toNatClampNeg) from zn_in (by omega) (by decide)), zn_nat (by omega), hc.2.1 r hr]
  unfold m_X3_remainder_22 o_ck
  have e0 : ¬ zn (pg_z P r) = 0 := by rw [show (0 : Int32) = zn 0 from rfl, zn_inj (by omega) (by omega)]; omega
  rw [if_neg (by rw [show (0 : Int32) = zn 0 from rfl, zn_le (by omega) (by omega)]; omega), if_neg (zn_nn (by omega)), if_pos e0, zn_mod (by omega) (by omega)]
theorem c_turn (hS : PSh G ad p) (hv : vP n P) (hc : cP ad M p P) {r c : Nat} (hr : r < pg_r P) (hcc : c < 1000) : m_X3_turnFor G M (ad p) (zn r) (zn c) = some (M, zn (pg_t P r (c % pg_z P r))) := by
  have h5 := hv.1
  have hz := hv.2.1 r hr
  have hm : c % pg_z P r < pg_z P r := Nat.mod_lt _ (by omega)
  unfold m_X3_turnFor
  rw [if_neg (zn_nn (by omega)), hc.1.1, if_neg (by rw [zn_le (by omega) (by omega)]; omega), hS.1.2.1, c_rem hS hv hc hr hcc]
  unfold o_rf o_cl o_ix
  dsimp only
  have e : zn r * 6 + zn (c % pg_z P r) = zn (6 * r + c % pg_z P r) := by rw [show zn r * 6 = zn (r * 6) from zn_mul r 6, zn_add, Nat.mul_comm]
  rw [e, hS.2.2.1, if_neg (show ¬ (zn (6 * r + c % pg_z P r) < 0 ∨ 30 ≤ (zn (6 * r + c % pg_z P r)).toNatClampNeg) from zn_in (by omega) (by decide)), zn_nat (by omega), hc.2.2.1 r hr _ hm]
def aHolds (P : aP) (k : Nat) (Y : aY) : Prop := (evL Y (pg_T P k) []).headD 0 ≠ 0
def SB (ad : Nat → Nat) (y : Nat) (a : Nat) : Prop := Bk ad y (y + 17) a ∨ Bk ad 64 66 a
theorem SB_y {M' : mS} {lo hi : Nat} (h : Fr (Bk ad lo hi) M M') (h1 : y ≤ lo) (h2 : hi ≤ y + 17) : Fr (SB ad y) M M' := Fr_mono h (fun _ q => Or.inl (Bk_sub h1 h2 q))
theorem SB_k {M' : mS} (h : Fr (Bk ad 64 66) M M') : Fr (SB ad y) M M' := Fr_mono h (fun _ q => Or.inr q)
theorem SB_I (hA : Inj ad) {M' : mS} (h : Fr (SB ad y) M M') {k : Nat} (h1 : k < y ∨ y + 17 ≤ k) (h2 : k < 64 ∨ 66 ≤ k) : mI M' (ad k) = mI M (ad k) := h.1 _ (by rintro (q | q); exact Bk_out hA h1 q; exact Bk_out hA h2 q)
theorem SB_J (hA : Inj ad) {M' : mS} (h : Fr (SB ad y) M M') {k : Nat} (h1 : k < y ∨ y + 17 ≤ k) (h2 : k < 64 ∨ 66 ≤ k) : mJ M' (ad k) = mJ M (ad k) := h.2 _ (by rintro (q | q); exact Bk_out hA h1 q; exact Bk_out hA h2 q)
theorem cP_SB (hA : Inj ad) {M' : mS} (h : cP ad M p P) (hF : Fr (SB ad y) M M') (hd : p + 9 ≤ y ∨ y + 17 ≤ p) (h2 : p + 9 ≤ 64) : cP ad M' p P := cP_keep h (fun k h1 h2 => SB_I hA hF (by omega) (by omega))
theorem c_hold_loop (hA : Inj ad) (hS : YSh G ad y) (hR : RSh G ad 64) (hP : PSh G ad p) (hy : y + 17 ≤ 64) (hp : p + 9 ≤ y) {b : Nat} (hv : vY b Y) (hb : b < 1000000000) (q : Int32) : ∀ (L : List aO) (j f : Nat) (M : mS) (st : List Bool) (s : List Int32), j + L.length ≤ 400 → L.length < f → (∀ i, i < L.length → mI M (ad (p + 7)) (j + i) = zn (L.getD i (0, 0)).1 ∧ mI M (ad (p + 8)) (j + i) = (L.getD i (0, 0)).2) → cY ad M y Y → RS ad M 64 s → tyL (yd_n Y) L st = some [true] → sOk st s → st.length ≤ 64 → p_cl (m_X4_holds_35 G (ad 64) (ad p) q (ad y) f M (zn (j + L.length)) (zn j)) (fun M' r => (r = if (evL Y L s).headD 0 = 0 then 0 else 1) ∧ cY ad M' y Y ∧ Fr (SB ad y) M M') := by
  intro L
  induction L with
  | nil =>
    intro j f M st s hj hf hops hc hs ht ho hst
    obtain ⟨f, rfl⟩ : ∃ g, f = g + 1 := ⟨f - 1, by omega⟩
    rw [m_X4_holds_35]
    refine c_t (Int32.le_refl _) ?_
    cases ht
    obtain ⟨x, t, rfl, q1, q2⟩ := sOk1 ho
    have : t = [] := by
      match t, q2 with
      | [], _ => rfl
    subst this
    unfold m_X4_holds_75
    refine c_clm (c_pop hA hR hs (by decide)) ?_
    rintro M1 r ⟨rfl, g1, g2⟩
    have hc1 := cY_Fr hA hc hv.2.1 g2 (by omega)
    refine c_if (fun z => ?_) (fun z => ?_)
    · exact c_ck (Or.inl rfl) (c_some ⟨by show _ = if r = 0 then (0 : Int32) else 1; rw [if_pos z], hc1, SB_k g2⟩)
    · exact c_ck (Or.inr rfl) (c_some ⟨by show _ = if r = 0 then (0 : Int32) else 1; rw [if_neg z], hc1, SB_k g2⟩)
  | cons o L ih =>
    intro j f M st s hj hf hops hc hs ht ho hst
    obtain ⟨k, v⟩ := o
    obtain ⟨f, rfl⟩ : ∃ g, f = g + 1 := ⟨f - 1, by omega⟩
    have hl : ((k, v) :: L).length = L.length + 1 := rfl
    rw [hl] at hj hf ⊢
    obtain ⟨s1, t1, t2⟩ := Option.bind_eq_some_iff.mp ht
    have h0 := hops 0 (Nat.succ_pos _)
    rw [m_X4_holds_35]
    refine c_f (by rw [zn_le (by omega) (by omega)]; omega) (c_f (by rw [show (400 : Int32) = zn 400 from rfl, zn_le (by omega) (by omega)]; omega) (c_rf hP.1.2.2.2.2.2.2.1 (c_ix (by rw [hP.2.2.2.2.2.2.2.1]; exact zn_in (by omega) (by decide)) (c_rf hP.1.2.2.2.2.2.2.2 (c_ix (by rw [hP.2.2.2.2.2.2.2.2]; exact zn_in (by omega) (by decide)) ?_)))))
    rw [zn_nat (by omega), show mI M (ad (p + 7)) j = zn k from h0.1, show mI M (ad (p + 8)) j = v from h0.2]
    refine c_clm (c_reckon hA hS hR (by omega) hv hb hc hs t1 ho hst) ?_
    rintro M1 _ ⟨g1, g2, g3⟩
    have hF : Fr (SB ad y) M M1 := Fr_mono g3 (fun a q => q.elim (fun z => Or.inl (Bk_sub (by omega) (by omega) z)) Or.inr)
    refine c_bd ?_
    rw [zn_one, show j + (L.length + 1) = j + 1 + L.length by omega]
    have hst1 : s1.length ≤ 64 := by
      rcases ty1_cases t1 with ⟨_, _, h3, rfl⟩ | ⟨_, h3, _, rfl⟩ | ⟨_, h3, _, rfl⟩ | ⟨_, r, rfl, rfl⟩ | ⟨_, r, rfl, rfl⟩ | ⟨_, r, rfl, rfl⟩ | ⟨_, r, rfl, rfl⟩ | ⟨_, r, rfl, rfl⟩
      · exact h3
      · exact h3
      · exact h3
      · exact hst
      · exact hst
      · exact Nat.le_of_succ_le hst
      · exact Nat.le_of_succ_le hst
      · exact Nat.le_of_succ_le hst
    refine c_mono (ih (j + 1) f M1 s1 _ (by omega) (by omega) (fun i hi => ?_) g2 g1 t2 (ev1_ok (fun i hi => (hv.2.2 i hi).1.2.2.2.2.1) t1 ho) hst1) ?_
    · have := hops (i + 1) (Nat.succ_lt_succ hi)
      rw [SB_I hA hF (k := p + 7) (by omega) (by omega), SB_I hA hF (k := p + 8) (by omega) (by omega), show j + 1 + i = j + (i + 1) by omega]
      exact this
    · rintro M2 r ⟨e1, e2, e3⟩
      exact ⟨e1, e2, Fr_tr hF e3⟩
theorem c_holds (hA : Inj ad) (hS : YSh G ad y) (hR : RSh G ad 64) (hP : PSh G ad p) (hy : y + 17 ≤ 64) (hp : p + 9 ≤ y) {b : Nat} (hv : vY b Y) (hb : b < 1000000000) (hvP : vP (yd_n Y) P) (hc : cY ad M y Y) (hcP : cP ad M p P) {k : Nat} (hk : k < pg_o P) : p_cl (m_X4_holds G M (ad 64) (ad p) (zn k) (ad y)) (fun M' r => (aHolds P k Y → r = 1) ∧ (¬ aHolds P k Y → r = 0) ∧ cY ad M' y Y ∧ Fr (SB ad y) M M') := by
  have h20 := hvP.2.2.2.1
  have ho := off_mono (T := pg_T P) (j := k + 1) (pg_o P) (by omega)
  have ho2 : off (pg_T P) (k + 1) = off (pg_T P) k + (pg_T P k).length := rfl
  have h400 := hvP.2.2.2.2.1
  have hF0 : Fr (Bk ad 64 66) M (wI M (ad 64) 1 0) := Fr_wI Fr_rf (Bk_in (by omega) (by omega))
  have hcP1 := cP_Fr hA hcP hF0 (by omega)
  have hc1 := cY_Fr hA hc hv.2.1 hF0 (by omega)
  have hs : RS ad (wI M (ad 64) 1 0) 64 [] := ⟨by rw [mI_wI, if_pos rfl, upd_at, if_pos rfl]; rfl, fun j hj => by cases hj⟩
  unfold m_X4_holds
  refine c_wI ?_
  have fin : p_cl (m_X4_holds_21 G (ad 64) (ad p) (zn k) (ad y) (wI M (ad 64) 1 0) (zn (off (pg_T P) k))) (fun M' r => (aHolds P k Y → r = 1) ∧ (¬ aHolds P k Y → r = 0) ∧ cY ad M' y Y ∧ Fr (SB ad y) M M') := by
    unfold m_X4_holds_21
    refine c_rf hP.1.2.2.2.2.2.1 (c_ix (by rw [hP.2.2.2.2.2.2.1]; exact zn_in (by omega) (by decide)) (c_bd ?_))
    rw [zn_nat (by omega), (hcP1.2.2.2.1 k hk).2.2.2, ho2]
    refine c_mono (c_hold_loop hA hS hR hP hy hp hv hb (zn k) (pg_T P k) (off (pg_T P) k) fu _ [] [] (by omega) (by unfold fu; omega) (fun i hi => hcP1.2.2.2.2 k hk i hi) hc1 hs (hvP.2.2.2.2.2 k hk).2 trivial (by decide)) ?_
    rintro M' r ⟨e1, e2, e3⟩
    refine ⟨fun h => ?_, fun h => ?_, e2, Fr_tr (SB_k hF0) e3⟩
    · rw [e1, if_neg h]
    · rw [e1, if_pos (Decidable.not_not.mp h)]
  refine c_if (fun g => ?_) (fun g => ?_)
  · rw [show (0 : Int32) = zn 0 from rfl, zn_le (by omega) (by omega)] at g
    have : k = 0 := by omega
    subst this
    exact fin
  · rw [show (0 : Int32) = zn 0 from rfl, zn_le (by omega) (by omega)] at g
    have e : zn k - 1 = zn (k - 1) := zn_sub (b := 1) (by omega)
    rw [e]
    refine c_rf hP.1.2.2.2.2.2.1 (c_ix (by rw [hP.2.2.2.2.2.2.1]; exact zn_in (by omega) (by decide)) ?_)
    rw [zn_nat (by omega), (hcP1.2.2.2.1 (k - 1) (by omega)).2.2.2, show k - 1 + 1 = k by omega]
    exact fin
end ProgSpecs
