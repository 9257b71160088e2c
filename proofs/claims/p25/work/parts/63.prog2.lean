/-! programs in the making -/
def pRule (P : aP) : aP := (pg_r P + 1, fun k => if k = pg_r P then 0 else pg_z P k, pg_t P, pg_o P, pg_k P, pg_f P, pg_s P, pg_T P)
def pTurn (t : Nat) (P : aP) : aP := (pg_r P, fun k => if k = pg_r P - 1 then pg_z P k + 1 else pg_z P k, fun r k => if r = pg_r P - 1 ∧ k = pg_z P (pg_r P - 1) then t else pg_t P r k, pg_o P, pg_k P, pg_f P, pg_s P, pg_T P)
def pOrd (k : Nat) (P : aP) : aP := (pg_r P, pg_z P, pg_t P, pg_o P + 1, fun j => if j = pg_o P then k else pg_k P j, fun j => if j = pg_o P then 0 else pg_f P j, fun j => if j = pg_o P then 0 else pg_s P j, fun j => if j = pg_o P then [] else pg_T P j)
def pNums (f s : Nat) (P : aP) : aP := if pg_o P = 0 then P else (pg_r P, pg_z P, pg_t P, pg_o P, pg_k P, fun j => if j = pg_o P - 1 then f else pg_f P j, fun j => if j = pg_o P - 1 then s else pg_s P j, pg_T P)
def pOp (o : aO) (P : aP) : aP := if pg_o P = 0 ∨ 400 ≤ off (pg_T P) (pg_o P) then P else (pg_r P, pg_z P, pg_t P, pg_o P, pg_k P, pg_f P, pg_s P, fun j => if j = pg_o P - 1 then pg_T P j ++ [o] else pg_T P j)
def aP0 : aP := (0, fun _ => 0, fun _ _ => 0, 0, fun _ => 0, fun _ => 0, fun _ => 0, fun _ => [])
theorem off_congr {T U : Nat → List aO} : ∀ k : Nat, (∀ j, j < k → T j = U j) → off T k = off U k := by
  intro k
  induction k with
  | zero => intro _; rfl
  | succ k ih => intro h; rw [off, off, ih (fun j hj => h j (by omega)), h k (by omega)]
section Prog2
variable {G : gS} {ad : Nat → Nat} {M : mS} {p : Nat} {P : aP}
theorem c_clearP (hA : Inj ad) : p_cl (m_X3_clear G M (ad p)) (fun M' _ => cP ad M' p aP0 ∧ Fr (Bk ad p (p + 9)) M M') := by
  unfold m_X3_clear
  refine c_wI (c_wI (c_wI (c_some ⟨⟨⟨?_, ?_, ?_⟩, fun r hr => ?_, fun r hr => ?_, fun k hk => ?_, fun k hk => ?_⟩, Fr_wI (Fr_wI (Fr_wI Fr_rf (Bk_in (by omega) (by omega))) (Bk_in (by omega) (by omega))) (Bk_in (by omega) (by omega))⟩)))
  · rw [wI_ne hA (by omega), wI_ne hA (by omega), wI_eq]; rfl
  · rw [wI_ne hA (by omega), wI_eq]; rfl
  · rw [wI_eq]; rfl
  · exact absurd hr (Nat.not_lt_zero r)
  · exact absurd hr (Nat.not_lt_zero r)
  · exact absurd hk (Nat.not_lt_zero k)
  · exact absurd hk (Nat.not_lt_zero k)
theorem c_beginRule (hA : Inj ad) (hS : PSh G ad p) (hc : cP ad M p P) (hr : pg_r P ≤ 5) : p_cl (m_X3_beginRule G M (ad p)) (fun M' r => (pg_r P < 5 → r = 1 ∧ cP ad M' p (pRule P)) ∧ (¬ pg_r P < 5 → r = 0 ∧ M' = M) ∧ Fr (Bk ad p (p + 9)) M M') := by
  obtain ⟨⟨c0, c3, c8⟩, h1, h2, h3, h4⟩ := id hc
  unfold m_X3_beginRule
  rw [c0]
  refine c_if (fun g => ?_) (fun g => ?_)
  · rw [show (5 : Int32) = zn 5 from rfl, zn_lt (by omega) (by omega)] at g
    refine c_rf hS.1.1 (c_ix (by rw [hS.2.1]; exact zn_in g (by decide)) (c_wI (c_wI (c_ck (Or.inr rfl) (c_some ⟨fun _ => ⟨rfl, ?_⟩, fun q => absurd g q, Fr_wI (Fr_wI Fr_rf (Bk_in (by omega) (by omega))) (Bk_in (by omega) (by omega))⟩)))))
    rw [zn_nat (show pg_r P < 2147483648 by omega), wI_ne hA (show p ≠ p + 1 ∨ _ by omega), c0, zn_one]
    refine ⟨⟨?_, ?_, ?_⟩, fun r hr2 => ?_, fun r hr2 k hk => ?_, fun k hk => ?_, fun k hk j hj => ?_⟩
    · rw [wI_eq]; rfl
    · rw [wI_ne hA (by omega), wI_ne hA (by omega)]; exact c3
    · rw [wI_ne hA (by omega), wI_ne hA (by omega)]; exact c8
    · rw [wI_ne hA (by omega)]
      show _ = zn (if r = pg_r P then 0 else pg_z P r)
      by_cases e : r = pg_r P
      · rw [if_pos e, e, wI_eq]; rfl
      · rw [if_neg e, wI_ne hA (Or.inr e)]
        exact h1 r (by have : r < pg_r P + 1 := hr2; omega)
    · have hk2 : k < if r = pg_r P then 0 else pg_z P r := hk
      have hr3 : r < pg_r P + 1 := hr2
      by_cases e : r = pg_r P
      · rw [if_pos e] at hk2; omega
      · rw [if_neg e] at hk2
        rw [wI_ne hA (by omega), wI_ne hA (by omega)]
        exact h2 r (by omega) k hk2
    · rw [wI_ne hA (by omega), wI_ne hA (by omega), wI_ne hA (by omega), wI_ne hA (by omega), wI_ne hA (by omega), wI_ne hA (by omega), wI_ne hA (by omega), wI_ne hA (by omega)]
      exact h3 k hk
    · rw [wI_ne hA (by omega), wI_ne hA (by omega), wI_ne hA (by omega), wI_ne hA (by omega)]
      exact h4 k hk j hj
  · rw [show (5 : Int32) = zn 5 from rfl, zn_lt (by omega) (by omega)] at g
    exact c_ck (Or.inl rfl) (c_some ⟨fun q => absurd q g, fun _ => ⟨rfl, rfl⟩, Fr_rf⟩)
theorem c_addTurn (hA : Inj ad) (hS : PSh G ad p) (hc : cP ad M p P) (hr : pg_r P ≤ 5) (hr1 : 1 ≤ pg_r P) (hz : ∀ r, r < pg_r P → pg_z P r ≤ 6) {t : Nat} : p_cl (m_X3_addTurn G M (ad p) (zn t)) (fun M' r => (pg_z P (pg_r P - 1) < 6 → r = 1 ∧ cP ad M' p (pTurn t P)) ∧ (¬ pg_z P (pg_r P - 1) < 6 → r = 0 ∧ M' = M) ∧ Fr (Bk ad p (p + 9)) M M') := by
  obtain ⟨⟨c0, c3, c8⟩, h1, h2, h3, h4⟩ := id hc
  have hz1 := hz (pg_r P - 1) (by omega)
  have hv := h1 (pg_r P - 1) (by omega)
  unfold m_X3_addTurn m_X3_addTurn_22
  rw [c0, show zn (pg_r P) - 1 = zn (pg_r P - 1) from zn_sub (b := 1) (by omega)]
  refine c_bd (c_f (zn_nn (by omega)) (c_rf hS.1.1 (c_ix (by rw [hS.2.1]; exact zn_in (by omega) (by decide)) ?_)))
  rw [zn_nat (show pg_r P - 1 < 2147483648 by omega), hv]
  refine c_if (fun g => ?_) (fun g => ?_)
  · rw [show (6 : Int32) = zn 6 from rfl, zn_lt (by omega) (by omega)] at g
    refine c_rf hS.1.2.1 (c_rf hS.1.1 (c_ix (by rw [hS.2.1]; exact zn_in (by omega) (by decide)) ?_))
    rw [hv, show zn (pg_r P - 1) * 6 = zn ((pg_r P - 1) * 6) from zn_mul _ 6, zn_add]
    refine c_ix (by rw [hS.2.2.1]; exact zn_in (by omega) (by decide)) (c_wI (c_rf hS.1.1 (c_ix (by rw [hS.2.1]; exact zn_in (by omega) (by decide)) (c_ix (by rw [hS.2.1]; exact zn_in (by omega) (by decide)) (c_wI (c_ck (Or.inr rfl) (c_some ⟨fun _ => ⟨rfl, ?_⟩, fun q => absurd g q, Fr_wI (Fr_wI Fr_rf (Bk_in (by omega) (by omega))) (Bk_in (by omega) (by omega))⟩)))))))
    rw [zn_nat (show (pg_r P - 1) * 6 + pg_z P (pg_r P - 1) < 2147483648 by omega), wI_ne hA (show p + 1 ≠ p + 2 ∨ _ by omega), hv, zn_one]
    refine ⟨⟨?_, ?_, ?_⟩, fun r hr2 => ?_, fun r hr2 k hk => ?_, fun k hk => ?_, fun k hk j hj => ?_⟩
    · rw [wI_ne hA (by omega), wI_ne hA (by omega)]; exact c0
    · rw [wI_ne hA (by omega), wI_ne hA (by omega)]; exact c3
    · rw [wI_ne hA (by omega), wI_ne hA (by omega)]; exact c8
    · show _ = zn (if r = pg_r P - 1 then pg_z P r + 1 else pg_z P r)
      by_cases e : r = pg_r P - 1
      · rw [if_pos e, e, wI_eq]
      · rw [if_neg e, wI_ne hA (Or.inr e), wI_ne hA (by omega)]
        exact h1 r hr2
    · have hk2 : k < if r = pg_r P - 1 then pg_z P r + 1 else pg_z P r := hk
      have hr3 : r < pg_r P := hr2
      show _ = zn (if r = pg_r P - 1 ∧ k = pg_z P (pg_r P - 1) then t else pg_t P r k)
      rw [wI_ne hA (by omega)]
      by_cases e : r = pg_r P - 1 ∧ k = pg_z P (pg_r P - 1)
      · rw [if_pos e, e.1, e.2, show 6 * (pg_r P - 1) + pg_z P (pg_r P - 1) = (pg_r P - 1) * 6 + pg_z P (pg_r P - 1) by omega, wI_eq]
      · have hk3 : k < pg_z P r := by
          by_cases e2 : r = pg_r P - 1
          · rw [if_pos e2, e2] at hk2
            rw [e2]
            have : ¬ k = pg_z P (pg_r P - 1) := fun h => e ⟨e2, h⟩
            omega
          · rw [if_neg e2] at hk2
            exact hk2
        have hz3 := hz r hr3
        rw [if_neg e, wI_ne hA (Or.inr (by
          intro h
          by_cases e2 : r = pg_r P - 1
          · rw [e2] at hk3 h
            omega
          · omega))]
        exact h2 r hr3 k hk3
    · rw [wI_ne hA (by omega), wI_ne hA (by omega), wI_ne hA (by omega), wI_ne hA (by omega), wI_ne hA (by omega), wI_ne hA (by omega), wI_ne hA (by omega), wI_ne hA (by omega)]
      exact h3 k hk
    · rw [wI_ne hA (by omega), wI_ne hA (by omega), wI_ne hA (by omega), wI_ne hA (by omega)]
      exact h4 k hk j hj
  · rw [show (6 : Int32) = zn 6 from rfl, zn_lt (by omega) (by omega)] at g
    exact c_ck (Or.inl rfl) (c_some ⟨fun q => absurd q g, fun _ => ⟨rfl, rfl⟩, Fr_rf⟩)
theorem c_beginOrder (hA : Inj ad) (hS : PSh G ad p) (hc : cP ad M p P) (ho : pg_o P ≤ 20) {k : Nat} : p_cl (m_X3_beginOrder G M (ad p) (zn k)) (fun M' r => (pg_o P < 20 → r = 1 ∧ cP ad M' p (pOrd k P)) ∧ (¬ pg_o P < 20 → r = 0 ∧ M' = M) ∧ Fr (Bk ad p (p + 9)) M M') := by
  obtain ⟨⟨c0, c3, c8⟩, h1, h2, h3, h4⟩ := id hc
  unfold m_X3_beginOrder
  rw [c3]
  refine c_if (fun g => ?_) (fun g => ?_)
  · rw [show (20 : Int32) = zn 20 from rfl, zn_lt (by omega) (by omega)] at g
    have hix : vp_in (zn (pg_o P)) 20 := zn_in g (by decide)
    have eo : (zn (pg_o P)).toNatClampNeg = pg_o P := zn_nat (by omega)
    have en : off (fun j => if j = pg_o P then [] else pg_T P j) (pg_o P) = off (pg_T P) (pg_o P) := off_congr _ (fun j hj => if_neg (by omega))
    refine c_rf hS.1.2.2.1 (c_ix (by rw [hS.2.2.2.1]; exact hix) (c_wI ?_))
    rw [eo, wI_ne hA (show p ≠ p + 3 ∨ _ by omega), c3]
    refine c_rf hS.1.2.2.2.1 (c_ix (by rw [hS.2.2.2.2.1]; exact hix) (c_wI ?_))
    rw [eo, wI_ne hA (show p ≠ p + 4 ∨ _ by omega), wI_ne hA (show p ≠ p + 3 ∨ _ by omega), c3]
    refine c_rf hS.1.2.2.2.2.1 (c_ix (by rw [hS.2.2.2.2.2.1]; exact hix) (c_wI ?_))
    rw [eo, wI_ne hA (show p ≠ p + 5 ∨ _ by omega), wI_ne hA (show p ≠ p + 4 ∨ _ by omega), wI_ne hA (show p ≠ p + 3 ∨ _ by omega), c3]
    refine c_rf hS.1.2.2.2.2.2.1 (c_ix (by rw [hS.2.2.2.2.2.2.1]; exact hix) (c_wI (c_wI (c_ck (Or.inr rfl) (c_some ⟨fun _ => ⟨rfl, ?_⟩, fun q => absurd g q, Fr_wI (Fr_wI (Fr_wI (Fr_wI (Fr_wI Fr_rf (Bk_in (by omega) (by omega))) (Bk_in (by omega) (by omega))) (Bk_in (by omega) (by omega))) (Bk_in (by omega) (by omega))) (Bk_in (by omega) (by omega))⟩)))))
    rw [eo, wI_ne hA (show p ≠ p + 5 ∨ (8 : Nat) ≠ _ by omega), wI_ne hA (show p ≠ p + 4 ∨ (8 : Nat) ≠ _ by omega), wI_ne hA (show p ≠ p + 3 ∨ (8 : Nat) ≠ _ by omega), c8, wI_ne hA (show p ≠ p + 6 ∨ (3 : Nat) ≠ _ by omega), wI_ne hA (show p ≠ p + 5 ∨ (3 : Nat) ≠ _ by omega), wI_ne hA (show p ≠ p + 4 ∨ (3 : Nat) ≠ _ by omega), wI_ne hA (show p ≠ p + 3 ∨ (3 : Nat) ≠ _ by omega), c3, zn_one]
    refine ⟨⟨?_, ?_, ?_⟩, fun r hr2 => ?_, fun r hr2 j hj => ?_, fun j hj => ?_, fun j hj i hi => ?_⟩
    · rw [wI_ne hA (by omega), wI_ne hA (by omega), wI_ne hA (by omega), wI_ne hA (by omega), wI_ne hA (by omega)]; exact c0
    · rw [wI_eq]; rfl
    · rw [wI_ne hA (by omega), wI_ne hA (by omega), wI_ne hA (by omega), wI_ne hA (by omega), wI_ne hA (by omega), c8]
      show _ = zn (off (fun j => if j = pg_o P then [] else pg_T P j) (pg_o P + 1))
      rw [off, en, if_pos rfl]
      rfl
    · rw [wI_ne hA (by omega), wI_ne hA (by omega), wI_ne hA (by omega), wI_ne hA (by omega), wI_ne hA (by omega)]
      exact h1 r hr2
    · rw [wI_ne hA (by omega), wI_ne hA (by omega), wI_ne hA (by omega), wI_ne hA (by omega), wI_ne hA (by omega)]
      exact h2 r hr2 j hj
    · have hj2 : j < pg_o P + 1 := hj
      show _ = zn (if j = pg_o P then k else pg_k P j) ∧ _ = zn (if j = pg_o P then 0 else pg_f P j) ∧ _ = zn (if j = pg_o P then 0 else pg_s P j) ∧ _ = zn (off (fun j => if j = pg_o P then [] else pg_T P j) (j + 1))
      by_cases e : j = pg_o P
      · subst e
        rw [if_pos rfl, if_pos rfl, if_pos rfl]
        refine ⟨?_, ?_, ?_, ?_⟩
        · rw [wI_ne hA (by omega), wI_ne hA (by omega), wI_ne hA (by omega), wI_ne hA (by omega), wI_eq]
        · rw [wI_ne hA (by omega), wI_ne hA (by omega), wI_ne hA (by omega), wI_eq]; rfl
        · rw [wI_ne hA (by omega), wI_ne hA (by omega), wI_eq]; rfl
        · rw [wI_ne hA (by omega), wI_eq, off, en, if_pos rfl]
          rfl
      · have h5 := h3 j (by omega)
        rw [if_neg e, if_neg e, if_neg e]
        refine ⟨?_, ?_, ?_, ?_⟩
        · rw [wI_ne hA (by omega), wI_ne hA (by omega), wI_ne hA (by omega), wI_ne hA (by omega), wI_ne hA (Or.inr e)]; exact h5.1
        · rw [wI_ne hA (by omega), wI_ne hA (by omega), wI_ne hA (by omega), wI_ne hA (Or.inr e), wI_ne hA (by omega)]; exact h5.2.1
        · rw [wI_ne hA (by omega), wI_ne hA (by omega), wI_ne hA (Or.inr e), wI_ne hA (by omega), wI_ne hA (by omega)]; exact h5.2.2.1
        · rw [wI_ne hA (by omega), wI_ne hA (Or.inr e), wI_ne hA (by omega), wI_ne hA (by omega), wI_ne hA (by omega), h5.2.2.2]
          congr 1
          exact (off_congr _ (fun i hi => if_neg (by omega))).symm
    · have hj2 : j < pg_o P + 1 := hj
      have hi2 : i < (if j = pg_o P then [] else pg_T P j).length := hi
      by_cases e : j = pg_o P
      · rw [if_pos e] at hi2
        exact absurd hi2 (Nat.not_lt_zero i)
      · rw [if_neg e] at hi2
        show _ = zn ((if j = pg_o P then [] else pg_T P j).getD i (0, 0)).1 ∧ _ = ((if j = pg_o P then [] else pg_T P j).getD i (0, 0)).2
        have eo2 : off (pg_T (pOrd k P)) j = off (pg_T P) j := off_congr _ (fun i hi => if_neg (by omega))
        rw [if_neg e, eo2]
        rw [wI_ne hA (by omega), wI_ne hA (by omega), wI_ne hA (by omega), wI_ne hA (by omega), wI_ne hA (by omega), wI_ne hA (by omega), wI_ne hA (by omega), wI_ne hA (by omega), wI_ne hA (by omega), wI_ne hA (by omega)]
        exact h4 j (by omega) i hi2
  · rw [show (20 : Int32) = zn 20 from rfl, zn_lt (by omega) (by omega)] at g
    exact c_ck (Or.inl rfl) (c_some ⟨fun q => absurd q g, fun _ => ⟨rfl, rfl⟩, Fr_rf⟩)
theorem c_setNums (hA : Inj ad) (hS : PSh G ad p) (hc : cP ad M p P) (ho : pg_o P ≤ 20) {f s : Nat} : p_cl (m_X3_setOrderNumbers G M (ad p) (zn f) (zn s)) (fun M' _ => cP ad M' p (pNums f s P) ∧ Fr (Bk ad p (p + 9)) M M') := by
  obtain ⟨⟨c0, c3, c8⟩, h1, h2, h3, h4⟩ := id hc
  unfold m_X3_setOrderNumbers pNums
  rw [c3]
  refine c_if (fun g => ?_) (fun g => ?_)
  · rw [show (0 : Int32) = zn 0 from rfl, zn_le (by omega) (by omega)] at g
    rw [if_pos (by omega)]
    exact c_some ⟨hc, Fr_rf⟩
  · rw [show (0 : Int32) = zn 0 from rfl, zn_le (by omega) (by omega)] at g
    have hix : vp_in (zn (pg_o P - 1)) 20 := zn_in (by omega) (by decide)
    rw [if_neg (by omega), show zn (pg_o P) - 1 = zn (pg_o P - 1) from zn_sub (b := 1) (by omega)]
    refine c_rf hS.1.2.2.2.1 (c_ix (by rw [hS.2.2.2.2.1]; exact hix) (c_wI ?_))
    rw [zn_nat (show pg_o P - 1 < 2147483648 by omega), wI_ne hA (show p ≠ p + 4 ∨ _ by omega), c3, show zn (pg_o P) - 1 = zn (pg_o P - 1) from zn_sub (b := 1) (by omega)]
    refine c_rf hS.1.2.2.2.2.1 (c_ix (by rw [hS.2.2.2.2.2.1]; exact hix) (c_wI (c_some ⟨?_, Fr_wI (Fr_wI Fr_rf (Bk_in (by omega) (by omega))) (Bk_in (by omega) (by omega))⟩)))
    rw [zn_nat (show pg_o P - 1 < 2147483648 by omega)]
    refine ⟨⟨?_, ?_, ?_⟩, fun r hr2 => ?_, fun r hr2 j hj => ?_, fun j hj => ?_, fun j hj i hi => ?_⟩
    · rw [wI_ne hA (by omega), wI_ne hA (by omega)]; exact c0
    · rw [wI_ne hA (by omega), wI_ne hA (by omega)]; exact c3
    · rw [wI_ne hA (by omega), wI_ne hA (by omega)]; exact c8
    · rw [wI_ne hA (by omega), wI_ne hA (by omega)]; exact h1 r hr2
    · rw [wI_ne hA (by omega), wI_ne hA (by omega)]; exact h2 r hr2 j hj
    · have h5 := h3 j hj
      refine ⟨?_, ?_, ?_, ?_⟩
      · rw [wI_ne hA (by omega), wI_ne hA (by omega)]; exact h5.1
      · show _ = zn (if j = pg_o P - 1 then f else pg_f P j)
        rw [wI_ne hA (by omega)]
        by_cases e : j = pg_o P - 1
        · rw [if_pos e, e, wI_eq]
        · rw [if_neg e, wI_ne hA (Or.inr e)]; exact h5.2.1
      · show _ = zn (if j = pg_o P - 1 then s else pg_s P j)
        by_cases e : j = pg_o P - 1
        · rw [if_pos e, e, wI_eq]
        · rw [if_neg e, wI_ne hA (Or.inr e), wI_ne hA (by omega)]; exact h5.2.2.1
      · rw [wI_ne hA (by omega), wI_ne hA (by omega)]; exact h5.2.2.2
    · rw [wI_ne hA (by omega), wI_ne hA (by omega), wI_ne hA (by omega), wI_ne hA (by omega)]
      exact h4 j hj i hi
theorem c_addOp (hA : Inj ad) (hS : PSh G ad p) (hc : cP ad M p P) (ho : pg_o P ≤ 20) (h400 : off (pg_T P) (pg_o P) ≤ 400) {k : Nat} {v : Int32} : p_cl (m_X3_addOperation G M (ad p) (zn k) v) (fun M' _ => cP ad M' p (pOp (k, v) P) ∧ Fr (Bk ad p (p + 9)) M M') := by
  obtain ⟨⟨c0, c3, c8⟩, h1, h2, h3, h4⟩ := id hc
  unfold m_X3_addOperation pOp
  rw [c3, c8]
  refine c_if (fun g => ?_) (fun g => ?_)
  · rw [show (0 : Int32) = zn 0 from rfl, zn_le (by omega) (by omega)] at g
    rw [if_pos (Or.inl (by omega))]
    exact c_some ⟨hc, Fr_rf⟩
  rw [show (0 : Int32) = zn 0 from rfl, zn_le (by omega) (by omega)] at g
  refine c_if (fun g2 => ?_) (fun g2 => ?_)
  · rw [show (400 : Int32) = zn 400 from rfl, zn_le (by omega) (by omega)] at g2
    rw [if_pos (Or.inr g2)]
    exact c_some ⟨hc, Fr_rf⟩
  rw [show (400 : Int32) = zn 400 from rfl, zn_le (by omega) (by omega)] at g2
  rw [if_neg (by omega)]
  have hix : vp_in (zn (off (pg_T P) (pg_o P))) 400 := zn_in (by omega) (by decide)
  have eW : (zn (off (pg_T P) (pg_o P))).toNatClampNeg = off (pg_T P) (pg_o P) := zn_nat (by omega)
  obtain ⟨o, hoo⟩ : ∃ o, pg_o P = o + 1 := ⟨pg_o P - 1, by omega⟩
  refine c_rf hS.1.2.2.2.2.2.2.1 (c_ix (by rw [hS.2.2.2.2.2.2.2.1]; exact hix) (c_wI ?_))
  rw [eW, wI_ne hA (show p ≠ p + 7 ∨ _ by omega), c8]
  refine c_rf hS.1.2.2.2.2.2.2.2 (c_ix (by rw [hS.2.2.2.2.2.2.2.2]; exact hix) (c_wI (c_wI ?_)))
  rw [eW, wI_ne hA (show p ≠ p + 8 ∨ (8 : Nat) ≠ _ by omega), wI_ne hA (show p ≠ p + 7 ∨ (8 : Nat) ≠ _ by omega), c8, zn_one]
  rw [wI_ne hA (show p ≠ p ∨ (3 : Nat) ≠ 8 by omega), wI_ne hA (show p ≠ p + 8 ∨ (3 : Nat) ≠ _ by omega), wI_ne hA (show p ≠ p + 7 ∨ (3 : Nat) ≠ _ by omega), c3, wI_eq, show zn (pg_o P) - 1 = zn o from by rw [hoo]; exact zn_top]
  refine c_rf hS.1.2.2.2.2.2.1 (c_ix (by rw [hS.2.2.2.2.2.2.1]; exact zn_in (by omega) (by decide)) (c_wI (c_some ⟨?_, Fr_wI (Fr_wI (Fr_wI (Fr_wI Fr_rf (Bk_in (by omega) (by omega))) (Bk_in (by omega) (by omega))) (Bk_in (by omega) (by omega))) (Bk_in (by omega) (by omega))⟩)))
  rw [zn_nat (show o < 2147483648 by omega)]
  have eo1 : pg_o P - 1 = o := by omega
  have eoff : ∀ j, j ≤ o → off (fun j => if j = pg_o P - 1 then pg_T P j ++ [(k, v)] else pg_T P j) j = off (pg_T P) j := fun j hj => off_congr _ (fun i hi => if_neg (by omega))
  have eoff1 : off (fun j => if j = pg_o P - 1 then pg_T P j ++ [(k, v)] else pg_T P j) (o + 1) = off (pg_T P) (pg_o P) + 1 := by
    rw [off, eoff o (Nat.le_refl _), if_pos eo1.symm, List.length_append, hoo, off]
    show _ + (_ + 1) = _
    omega
  have eW2 : off (pg_T P) (pg_o P) = off (pg_T P) o + (pg_T P o).length := by rw [hoo]; rfl
  refine ⟨⟨?_, ?_, ?_⟩, fun r hr2 => ?_, fun r hr2 j hj => ?_, fun j hj => ?_, fun j hj i hi => ?_⟩
  · rw [wI_ne hA (by omega), wI_ne hA (by omega), wI_ne hA (by omega), wI_ne hA (by omega)]; exact c0
  · rw [wI_ne hA (by omega), wI_ne hA (by omega), wI_ne hA (by omega), wI_ne hA (by omega)]; exact c3
  · rw [wI_ne hA (by omega), wI_eq]
    show _ = zn (off (fun j => if j = pg_o P - 1 then pg_T P j ++ [(k, v)] else pg_T P j) (pg_o P))
    rw [hoo] at eoff1 ⊢
    rw [eoff1]
  · rw [wI_ne hA (by omega), wI_ne hA (by omega), wI_ne hA (by omega), wI_ne hA (by omega)]; exact h1 r hr2
  · rw [wI_ne hA (by omega), wI_ne hA (by omega), wI_ne hA (by omega), wI_ne hA (by omega)]; exact h2 r hr2 j hj
  · have h5 := h3 j hj
    have hj2 : j < pg_o P := hj
    refine ⟨?_, ?_, ?_, ?_⟩
    · rw [wI_ne hA (by omega), wI_ne hA (by omega), wI_ne hA (by omega), wI_ne hA (by omega)]; exact h5.1
    · rw [wI_ne hA (by omega), wI_ne hA (by omega), wI_ne hA (by omega), wI_ne hA (by omega)]; exact h5.2.1
    · rw [wI_ne hA (by omega), wI_ne hA (by omega), wI_ne hA (by omega), wI_ne hA (by omega)]; exact h5.2.2.1
    · show _ = zn (off (fun j => if j = pg_o P - 1 then pg_T P j ++ [(k, v)] else pg_T P j) (j + 1))
      by_cases e : j = o
      · rw [e, wI_eq, eoff1]
      · rw [wI_ne hA (Or.inr e), wI_ne hA (by omega), wI_ne hA (by omega), wI_ne hA (by omega), eoff (j + 1) (by omega)]
        exact h5.2.2.2
  · have hj2 : j < pg_o P := hj
    have hi2 : i < (if j = pg_o P - 1 then pg_T P j ++ [(k, v)] else pg_T P j).length := hi
    have hoj : off (pg_T (pg_r P, pg_z P, pg_t P, pg_o P, pg_k P, pg_f P, pg_s P, fun j => if j = pg_o P - 1 then pg_T P j ++ [(k, v)] else pg_T P j)) j = off (pg_T P) j := eoff j (by omega)
    rw [hoj]
    show _ = zn ((if j = pg_o P - 1 then pg_T P j ++ [(k, v)] else pg_T P j).getD i (0, 0)).1 ∧ _ = ((if j = pg_o P - 1 then pg_T P j ++ [(k, v)] else pg_T P j).getD i (0, 0)).2
    by_cases e : j = pg_o P - 1
    · rw [if_pos e] at hi2 ⊢
      have ejo : j = o := by omega
      rw [List.length_append] at hi2
      have hi3 : i < (pg_T P j).length + 1 := hi2
      by_cases e2 : i = (pg_T P j).length
      · have ei : off (pg_T P) j + i = off (pg_T P) (pg_o P) := by rw [e2, ejo]; omega
        rw [ei, wI_ne hA (by omega), wI_ne hA (by omega), wI_ne hA (by omega), wI_eq, wI_ne hA (by omega), wI_ne hA (by omega), wI_eq]
        have eg : (pg_T P j ++ [(k, v)]).getD i (0, 0) = (k, v) := by
          have := getD_app (a := pg_T P j) (b := [(k, v)]) (j := 0) (d := (0, 0))
          rw [Nat.add_zero] at this
          rw [e2, this]
          rfl
        rw [eg]
        exact ⟨rfl, rfl⟩
      · have hlt : i < (pg_T P j).length := by omega
        have eg : (pg_T P j ++ [(k, v)]).getD i (0, 0) = (pg_T P j).getD i (0, 0) := by
          simp [List.getD, List.getElem?_append_left hlt]
        have hne : off (pg_T P) j + i ≠ off (pg_T P) (pg_o P) := by rw [ejo] at hlt ⊢; omega
        rw [eg, wI_ne hA (by omega), wI_ne hA (by omega), wI_ne hA (by omega), wI_ne hA (Or.inr hne), wI_ne hA (by omega), wI_ne hA (by omega), wI_ne hA (Or.inr hne), wI_ne hA (by omega)]
        exact h4 j hj2 i hlt
    · rw [if_neg e] at hi2 ⊢
      have hm := off_mono (T := pg_T P) (j := j + 1) (pg_o P) (by omega)
      have hs : off (pg_T P) (j + 1) = off (pg_T P) j + (pg_T P j).length := rfl
      have hne : off (pg_T P) j + i ≠ off (pg_T P) (pg_o P) := by omega
      rw [wI_ne hA (by omega), wI_ne hA (by omega), wI_ne hA (by omega), wI_ne hA (Or.inr hne), wI_ne hA (by omega), wI_ne hA (by omega), wI_ne hA (Or.inr hne), wI_ne hA (by omega)]
      exact h4 j hj2 i hi2
end Prog2
