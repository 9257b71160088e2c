/-! the class's ants: what is answered, moved, copied -/
theorem per_0 {h : Nat → Nat} : per 0 h = 0 := perF_big 120 1 (by omega)
def anMove (x y : Nat) (A : aA) : aA := (an_r A, x, y, an_s A, an_w A, an_t A, 0, an_h A)
def anFace (s : Nat) (A : aA) : aA := (an_r A, an_x A, an_y A, s, an_w A, an_t A, 0, an_h A)
def anWalk (w : Nat) (A : aA) : aA := (an_r A, an_x A, an_y A, an_s A, w, an_t A, an_n A, an_h A)
def anRule (r : Nat) (A : aA) : aA := (r, an_x A, an_y A, an_s A, an_w A, an_t A, an_n A, an_h A)
def an0 : aA := (0, 0, 0, 0, 1, 0, 0, fun _ => 0)
def anP (A : aA) : Nat := per (an_n A) (an_h A)
def anAns (A : aA) (w : Nat) : Int32 := if w = 0 then zn (an_r A) else if w = 1 then zn (an_x A) else if w = 2 then zn (an_y A) else if w = 3 then zn (an_s A) else if w = 4 then zn (an_w A) else if w = 5 then zn (an_t A) else if w = 6 then zn (anP A) else if w = 7 then Int32.ofInt (sE (an_n A) (an_h A) (anP A)) else Int32.ofInt (sS (an_n A) (an_h A) (anP A))
section AntSpecs2
variable {G : gS} {ad : Nat → Nat} {M : mS} {a : Nat} {A : aA}
theorem per_n {n : Nat} {h : Nat → Nat} : 3 * per n h ≤ n := by
  by_cases hp : per n h = 0
  · rw [hp]; omega
  · exact (per_3 hp).1
theorem c_east_loop (hS : ASh G ad a) (hc : cA0 ad M a A) (hv : vA A) (hn : an_n A < 1000000000) {p : Nat} (hp : 3 * p ≤ an_n A) (hp2 : p ≤ 120) : ∀ (b f : Nat), b ≤ p → b < f → p_cl (m_X0_eastOfPeriod_7 G (ad a) f M (Int32.ofInt (sE (an_n A) (an_h A) p - sE (an_n A) (an_h A) b)) (zn b)) (fun M' r => M' = M ∧ r = Int32.ofInt (sE (an_n A) (an_h A) p)) := by
  intro b
  induction b with
  | zero =>
    intro f hb hf
    obtain ⟨f, rfl⟩ : ∃ g, f = g + 1 := ⟨f - 1, by omega⟩
    rw [m_X0_eastOfPeriod_7]
    refine c_t (by decide) (c_some ⟨rfl, ?_⟩)
    congr 1
    show _ - 0 = _
    omega
  | succ b ih =>
    intro f hb hf
    obtain ⟨f, rfl⟩ : ∃ g, f = g + 1 := ⟨f - 1, by omega⟩
    rw [m_X0_eastOfPeriod_7]
    refine c_f (by rw [show (0 : Int32) = zn 0 from rfl, zn_le (by omega) (by omega)]; omega) ?_
    have l1 := hv.2.2.2.2.2 (an_n A - (b + 1))
    rw [c_side hS hc hv hn (by omega) (by omega) (by omega)]
    refine c_cl (c_some ?_)
    rw [zn_nat (by omega), f_E_d _ l1, ← Int32.ofInt_add]
    refine c_ix (zn_in l1 (by decide)) (c_bd (c_bd ?_))
    rw [show zn (b + 1) + (-1) = zn b from by rw [show zn (b + 1) = zn b + 1 from (zn_one b).symm, Int32.add_assoc]; exact Int32.add_zero _]
    rw [show sE (an_n A) (an_h A) p - sE (an_n A) (an_h A) (b + 1) + dE (an_h A (an_n A - (b + 1))) = sE (an_n A) (an_h A) p - sE (an_n A) (an_h A) b by rw [sE]; omega]
    exact ih f (by omega) (by omega)
theorem c_south_loop (hS : ASh G ad a) (hc : cA0 ad M a A) (hv : vA A) (hn : an_n A < 1000000000) {p : Nat} (hp : 3 * p ≤ an_n A) (hp2 : p ≤ 120) : ∀ (b f : Nat), b ≤ p → b < f → p_cl (m_X0_southOfPeriod_7 G (ad a) f M (Int32.ofInt (sS (an_n A) (an_h A) p - sS (an_n A) (an_h A) b)) (zn b)) (fun M' r => M' = M ∧ r = Int32.ofInt (sS (an_n A) (an_h A) p)) := by
  intro b
  induction b with
  | zero =>
    intro f hb hf
    obtain ⟨f, rfl⟩ : ∃ g, f = g + 1 := ⟨f - 1, by omega⟩
    rw [m_X0_southOfPeriod_7]
    refine c_t (by decide) (c_some ⟨rfl, ?_⟩)
    congr 1
    show _ - 0 = _
    omega
  | succ b ih =>
    intro f hb hf
    obtain ⟨f, rfl⟩ : ∃ g, f = g + 1 := ⟨f - 1, by omega⟩
    rw [m_X0_southOfPeriod_7]
    refine c_f (by rw [show (0 : Int32) = zn 0 from rfl, zn_le (by omega) (by omega)]; omega) ?_
    have l1 := hv.2.2.2.2.2 (an_n A - (b + 1))
    rw [c_side hS hc hv hn (by omega) (by omega) (by omega)]
    refine c_cl (c_some ?_)
    rw [zn_nat (by omega), f_S_d _ l1, ← Int32.ofInt_add]
    refine c_ix (zn_in l1 (by decide)) (c_bd (c_bd ?_))
    rw [show zn (b + 1) + (-1) = zn b from by rw [show zn (b + 1) = zn b + 1 from (zn_one b).symm, Int32.add_assoc]; exact Int32.add_zero _]
    rw [show sS (an_n A) (an_h A) p - sS (an_n A) (an_h A) (b + 1) + dS (an_h A (an_n A - (b + 1))) = sS (an_n A) (an_h A) p - sS (an_n A) (an_h A) b by rw [sS]; omega]
    exact ih f (by omega) (by omega)
theorem cA_east (hA : Inj ad) (hS : ASh G ad a) (hc : cA ad M a A) (hv : vA A) (hn : an_n A < 1000000000) : p_cl (m_X0_eastOfPeriod G M (ad a)) (fun M' r => r = Int32.ofInt (sE (an_n A) (an_h A) (anP A)) ∧ cA ad M' a A ∧ Fr (Bk ad a (a + 2)) M M') := by
  unfold m_X0_eastOfPeriod
  refine c_clm (cA_per hA hS hc hv hn) ?_
  rintro M1 r ⟨rfl, -, h1, h2⟩
  have := c_east_loop hS h1.1 hv hn (p := per (an_n A) (an_h A)) per_n per_le (per (an_n A) (an_h A)) fu (Nat.le_refl _) (by have := per_le (n := an_n A) (h := an_h A); unfold fu; omega)
  rw [Int.sub_self] at this
  refine c_mono this ?_
  rintro M2 r ⟨rfl, rfl⟩
  exact ⟨rfl, h1, h2⟩
theorem cA_south (hA : Inj ad) (hS : ASh G ad a) (hc : cA ad M a A) (hv : vA A) (hn : an_n A < 1000000000) : p_cl (m_X0_southOfPeriod G M (ad a)) (fun M' r => r = Int32.ofInt (sS (an_n A) (an_h A) (anP A)) ∧ cA ad M' a A ∧ Fr (Bk ad a (a + 2)) M M') := by
  unfold m_X0_southOfPeriod
  refine c_clm (cA_per hA hS hc hv hn) ?_
  rintro M1 r ⟨rfl, -, h1, h2⟩
  have := c_south_loop hS h1.1 hv hn (p := per (an_n A) (an_h A)) per_n per_le (per (an_n A) (an_h A)) fu (Nat.le_refl _) (by have := per_le (n := an_n A) (h := an_h A); unfold fu; omega)
  rw [Int.sub_self] at this
  refine c_mono this ?_
  rintro M2 r ⟨rfl, rfl⟩
  exact ⟨rfl, h1, h2⟩
theorem zn_lit {w k : Nat} (hw : w < 1000) (hk : k < 1000) : (zn w = OfNat.ofNat k) ↔ w = k := zn_inj (by omega) (by omega)
theorem cA_ans (hA : Inj ad) (hS : ASh G ad a) (hc : cA ad M a A) (hv : vA A) (hn : an_n A < 1000000000) {w : Nat} (hw : w < 9) : p_cl (m_X0_answer G M (ad a) (zn w)) (fun M' r => r = anAns A w ∧ cA ad M' a A ∧ Fr (Bk ad a (a + 2)) M M') := by
  obtain ⟨⟨h0, h1, h2, h3, h4, h5, h6, h8⟩, h7⟩ := id hc
  unfold m_X0_answer
  rw [h0, h1, h2, h3, h4, h5]
  match w, hw with
  | 0, _ => exact c_t rfl (c_some ⟨rfl, hc, Fr_rf⟩)
  | 1, _ => exact c_f (by decide) (c_t rfl (c_some ⟨rfl, hc, Fr_rf⟩))
  | 2, _ => exact c_f (by decide) (c_f (by decide) (c_t rfl (c_some ⟨rfl, hc, Fr_rf⟩)))
  | 3, _ => exact c_f (by decide) (c_f (by decide) (c_f (by decide) (c_t rfl (c_some ⟨rfl, hc, Fr_rf⟩))))
  | 4, _ =>
    refine c_f (by decide) (c_f (by decide) (c_f (by decide) (c_f (by decide) (c_t rfl ?_))))
    have hw := hv.2.2.2.2.1
    rcases (show an_w A = 0 ∨ an_w A = 1 by omega) with e | e
    · rw [e]; exact c_t rfl (c_some ⟨by show _ = zn (an_w A); rw [e]; rfl, hc, Fr_rf⟩)
    · rw [e]; exact c_f (by decide) (c_some ⟨by show _ = zn (an_w A); rw [e]; rfl, hc, Fr_rf⟩)
  | 5, _ => exact c_f (by decide) (c_f (by decide) (c_f (by decide) (c_f (by decide) (c_f (by decide) (c_t rfl (c_some ⟨rfl, hc, Fr_rf⟩))))))
  | 6, _ =>
    refine c_f (by decide) (c_f (by decide) (c_f (by decide) (c_f (by decide) (c_f (by decide) (c_f (by decide) (c_t rfl (c_clm (cA_per hA hS hc hv hn) ?_)))))))
    rintro M1 r ⟨rfl, -, h1, h2⟩
    exact c_some ⟨rfl, h1, h2⟩
  | 7, _ =>
    refine c_f (by decide) (c_f (by decide) (c_f (by decide) (c_f (by decide) (c_f (by decide) (c_f (by decide) (c_f (by decide) (c_t rfl (c_clm (cA_east hA hS hc hv hn) ?_))))))))
    rintro M1 r ⟨rfl, h1, h2⟩
    exact c_some ⟨rfl, h1, h2⟩
  | 8, _ =>
    refine c_f (by decide) (c_f (by decide) (c_f (by decide) (c_f (by decide) (c_f (by decide) (c_f (by decide) (c_f (by decide) (c_f (by decide) (c_t rfl (c_clm (cA_south hA hS hc hv hn) ?_)))))))))
    rintro M1 r ⟨rfl, h1, h2⟩
    exact c_some ⟨rfl, h1, h2⟩
theorem c_under (hc : cA0 ad M a A) : m_X0_stoneUnder G M (ad a) = some (M, zn (64 * an_y A + an_x A)) := by
  unfold m_X0_stoneUnder
  rw [hc.2.1, hc.2.2.1, show zn (an_y A) * 64 = zn (an_y A * 64) from zn_mul _ 64, zn_add, Nat.mul_comm]
theorem cA_move (hA : Inj ad) (hc : cA ad M a A) {x y : Nat} : p_cl (m_X0_moveTo G M (ad a) (zn x) (zn y)) (fun M' _ => cA ad M' a (anMove x y A) ∧ Fr (Bk ad a (a + 2)) M M') := by
  obtain ⟨⟨h0, h1, h2, h3, h4, h5, h6, h8⟩, h7⟩ := hc
  have hne : ad (a + 1) ≠ ad a := ad_ne hA (by omega)
  unfold m_X0_moveTo m_X0_beginPath
  refine c_wI (c_wI (c_cl (c_wI (c_wI (c_some (c_some ⟨?_, ?_⟩))))))
  · unfold cA cA0
    simp only [mI_wI, upd_at, hne, reduceIte, Nat.reduceEqDiff, h0, h3, h4, h5]
    exact ⟨⟨rfl, rfl, rfl, rfl, rfl, rfl, rfl, fun k k1 k2 => absurd (Nat.le_trans k1 k2) (by show ¬ 1 ≤ 0; omega)⟩, Or.inr (by show (0 : Int32) = zn (per 0 _); rw [per_0]; rfl)⟩
  · exact Fr_wI (Fr_wI (Fr_wI (Fr_wI Fr_rf (Bk_in (by omega) (by omega))) (Bk_in (by omega) (by omega))) (Bk_in (by omega) (by omega))) (Bk_in (by omega) (by omega))
theorem cA_face (hA : Inj ad) (hc : cA ad M a A) {s : Nat} : p_cl (m_X0_turnTo G M (ad a) (zn s)) (fun M' _ => cA ad M' a (anFace s A) ∧ Fr (Bk ad a (a + 2)) M M') := by
  obtain ⟨⟨h0, h1, h2, h3, h4, h5, h6, h8⟩, h7⟩ := hc
  have hne : ad (a + 1) ≠ ad a := ad_ne hA (by omega)
  unfold m_X0_turnTo m_X0_beginPath
  refine c_wI (c_cl (c_wI (c_wI (c_some (c_some ⟨?_, ?_⟩)))))
  · unfold cA cA0
    simp only [mI_wI, upd_at, hne, reduceIte, Nat.reduceEqDiff, h0, h1, h2, h4, h5]
    exact ⟨⟨rfl, rfl, rfl, rfl, rfl, rfl, rfl, fun k k1 k2 => absurd (Nat.le_trans k1 k2) (by show ¬ 1 ≤ 0; omega)⟩, Or.inr (by show (0 : Int32) = zn (per 0 _); rw [per_0]; rfl)⟩
  · exact Fr_wI (Fr_wI (Fr_wI Fr_rf (Bk_in (by omega) (by omega))) (Bk_in (by omega) (by omega))) (Bk_in (by omega) (by omega))
theorem cA_clear (hA : Inj ad) : p_cl (m_X0_clear G M (ad a)) (fun M' _ => cA ad M' a an0 ∧ Fr (Bk ad a (a + 2)) M M') := by
  have hne : ad (a + 1) ≠ ad a := ad_ne hA (by omega)
  unfold m_X0_clear m_X0_beginPath
  refine c_wI (c_wI (c_wI (c_wI (c_ck (Or.inr rfl) (c_wI (c_wI (c_cl (c_wI (c_wI (c_some (c_some ⟨?_, ?_⟩)))))))))))
  · unfold cA cA0
    simp only [mI_wI, upd_at, hne, reduceIte, Nat.reduceEqDiff]
    exact ⟨⟨rfl, rfl, rfl, rfl, rfl, rfl, rfl, fun k k1 k2 => absurd (Nat.le_trans k1 k2) (by show ¬ 1 ≤ 0; omega)⟩, Or.inr (by show (0 : Int32) = zn (per 0 _); rw [per_0]; rfl)⟩
  · exact Fr_wI (Fr_wI (Fr_wI (Fr_wI (Fr_wI (Fr_wI (Fr_wI (Fr_wI Fr_rf (Bk_in (by omega) (by omega))) (Bk_in (by omega) (by omega))) (Bk_in (by omega) (by omega))) (Bk_in (by omega) (by omega))) (Bk_in (by omega) (by omega))) (Bk_in (by omega) (by omega))) (Bk_in (by omega) (by omega))) (Bk_in (by omega) (by omega))
theorem cA_copy (hA : Inj ad) {b : Nat} (hS : ASh G ad a) (hSb : ASh G ad b) (hab : b + 1 < a ∨ a + 1 < b) (hc : cA ad M b A) (hv : vA A) : p_cl (m_X0_copyFrom G M (ad a) (ad b)) (fun M' _ => cA ad M' a A ∧ Fr (Bk ad a (a + 2)) M M') := by
  obtain ⟨⟨h0, h1, h2, h3, h4, h5, h6, h8⟩, h7⟩ := hc
  have n1 : ad (a + 1) ≠ ad a := ad_ne hA (by omega)
  have n2 : ad b ≠ ad a := ad_ne hA (by omega)
  have n3 : ad (b + 1) ≠ ad a := ad_ne hA (by omega)
  have n4 : ad (b + 1) ≠ ad (a + 1) := ad_ne hA (by omega)
  have n5 : ad a ≠ ad (a + 1) := ad_ne hA (by omega)
  unfold m_X0_copyFrom
  refine c_wI (c_wI (c_wI (c_wI (c_ck ?_ (c_wI (c_wI (c_wI (c_wI (c_rf hSb.1 (c_rf hS.1 (c_ck ?_ (c_wC (c_some ⟨?_, ?_⟩)))))))))))))
  · simp only [mI_wI, n2, reduceIte, h4]
    have := hv.2.2.2.2.1
    rcases (show an_w A = 0 ∨ an_w A = 1 by omega) with e | e <;> rw [e]
    · exact Or.inl rfl
    · exact Or.inr rfl
  · rw [hSb.2, hS.2]; decide
  · unfold cA cA0
    simp only [mI_wI, mI_wC, upd_at, n1, n2, n3, n4, n5, reduceIte, Nat.reduceEqDiff, h0, h1, h2, h3, h4, h5, h6]
    refine ⟨⟨trivial, trivial, trivial, trivial, trivial, trivial, trivial, fun k k1 k2 k3 => ?_⟩, h7⟩
    rw [← h8 k k1 k2 k3]
    have : (an_n A - k) % 512 < 512 := Nat.mod_lt _ (by decide)
    unfold cpy0 va_cpy
    rw [if_pos (by rw [show Int32.toNatClampNeg 512 = 512 from rfl]; omega)]
    congr 1
    omega
  · exact Fr_wC (Fr_wI (Fr_wI (Fr_wI (Fr_wI (Fr_wI (Fr_wI (Fr_wI (Fr_wI Fr_rf (Bk_in (by omega) (by omega))) (Bk_in (by omega) (by omega))) (Bk_in (by omega) (by omega))) (Bk_in (by omega) (by omega))) (Bk_in (by omega) (by omega))) (Bk_in (by omega) (by omega))) (Bk_in (by omega) (by omega))) (Bk_in (by omega) (by omega))) (Bk_in (by omega) (by omega))
end AntSpecs2
