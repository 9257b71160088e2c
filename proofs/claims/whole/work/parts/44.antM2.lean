/-! the reference's ants: a step, a period, what is led -/
theorem w64_1 : ∀ x : Nat, x < 64 → (zn x + 64 + 1) - (zn x + 64 + 1) / 64 * 64 = zn ((x + 1) % 64) := by decide +kernel
theorem w64_m : ∀ x : Nat, x < 64 → (zn x + 64 + (-1)) - (zn x + 64 + (-1)) / 64 * 64 = zn ((x + 63) % 64) := by decide +kernel
theorem w64_0 : ∀ x : Nat, x < 64 → (zn x + 64 + 0) - (zn x + 64 + 0) / 64 * 64 = zn x := by decide +kernel
section AntM2
variable {G : gS} {ad : Nat → Nat} {M : mS} {s a : Nat} {A : aA}
theorem m_go_row (hA : Inj ad) (hS : SSh G ad s) (ha : a < 6) {t y : Nat} (ht : t < 4) (hy : y < 64) (h7 : mI M (ad (s + 4)) a = zn y) {c2 : Int32} (hc2 : c2 = zn t) {Q : mS → Unit → Prop} {v1 v2 : Int32} (hk : ∀ M', M' = wI M (ad (s + 4)) a (zn (ny y t)) → Q M' ()) (cc : Int32) (x : Nat) (hx : x < 64) (M0 : mS) (hM : M = wI M0 (ad (s + 3)) a (zn (nx x t))) (hcc : (zn x + 64 + cc) - (zn x + 64 + cc) / 64 * 64 = zn (nx x t)) : p_cl (m_X11_go_154 G (ad s) (zn a) c2 M0 (ad (s + 3)) (zn a) (zn x + 64) cc) Q := by
  have e0 : (c2 = 0) ↔ t = 0 := by rw [hc2]; exact zn_inj (b := 0) (by omega) (by decide)
  have e2 : (c2 = 2) ↔ t = 2 := by rw [hc2]; exact zn_inj (b := 2) (by omega) (by decide)
  unfold m_X11_go_154
  refine c_ck (by decide) (c_ix (by rw [sn3 hS]; exact zn_in ha (by decide)) (c_wI ?_))
  rw [zn_nat (by omega), hcc, ← hM]
  refine c_rf (s7 hS) (c_rf (s7 hS) (c_ix (by rw [sn4 hS]; exact zn_in ha (by decide)) ?_))
  rw [h7]
  have fin : ∀ z : Int32, (zn y + 64 + z) - (zn y + 64 + z) / 64 * 64 = zn (ny y t) → p_cl (m_X11_go_191 G (ad s) (zn a) c2 M (ad (s + 4)) (zn a) (zn y + 64) z) Q := by
    intro z hz
    unfold m_X11_go_191
    refine c_ck (by decide) (c_ix (by rw [sn4 hS]; exact zn_in ha (by decide)) (c_wI (c_some ?_)))
    rw [zn_nat (by omega), hz]
    exact hk _ rfl
  refine c_if (fun g => ?_) (fun g => ?_)
  · refine fin 1 ?_
    rw [w64_1 y hy]
    unfold ny
    rw [if_pos (e2.mp g)]
  · refine c_if (fun g2 => ?_) (fun g2 => ?_)
    · refine fin (-1) ?_
      rw [w64_m y hy]
      unfold ny
      rw [if_neg (fun h => g (e2.mpr h)), if_pos (e0.mp g2)]
    · refine fin 0 ?_
      rw [w64_0 y hy]
      unfold ny
      rw [if_neg (fun h => g (e2.mpr h)), if_neg (fun h => g2 (e0.mpr h))]
theorem m_go (hA : Inj ad) (hS : SSh G ad s) (ha : a < 6) (hv : vA A) (hn : an_n A < 1000000000) {t : Nat} (ht : t < 4) (hts : an_s A = t) (hc : mA ad M s a A) : p_cl (m_X11_go G M (ad s) (zn a) (zn t)) (fun M' _ => mA ad M' s a (anStep t A) ∧ Oth ad M M' s a ∧ Fr (Bk ad (s + 3) (s + 11)) M M') := by
  obtain ⟨h3, h4, h5, h6, h7, h8, h9, h10⟩ := hc
  unfold m_X11_go
  refine m_go_loop hA hS ha hv hn ht (fun k => if k = an_n A then t else an_h A k) (fun k hk => by rw [if_neg (by omega)]) (by rw [if_pos rfl]) 120 1 fu M (by omega) (Nat.le_refl _) (by unfold fu; omega) h8 h9 (fun q q1 q2 => by omega) (fun q q1 q2 => ?_) (fun M1 g1 g2 g3 => ?_)
  · rw [h10 q q1 q2]
    congr 1
    exact rn_congr q1 _ (fun k hk => by rw [if_neg (by omega)])
  · rw [m_X11_go_2]
    have k8 : mI M1 (ad (s + 8)) a = zn (an_n A) := by rw [Fr_I hA g3 (by omega)]; exact h8
    have em : zn (an_n A) - zn (an_n A) / 128 * 128 = zn (an_n A % 128) := zn_128 (a := 0) (by omega)
    have hm : an_n A % 128 < 128 := Nat.mod_lt _ (by decide)
    have e3 : (128 : Int32) * zn a + zn (an_n A % 128) = zn (128 * a + an_n A % 128) := by rw [show (128 : Int32) * zn a = zn (128 * a) from zn_mul 128 a, zn_add]
    have ea : (zn a).toNatClampNeg = a := zn_nat (by omega)
    refine c_t (by decide) (c_rf (s12 hS) (c_rf (s11 hS) (c_ix (by rw [sn8 hS]; exact zn_in ha (by decide)) (c_ck (by decide) ?_))))
    rw [ea, k8, em, e3]
    refine c_ix (by rw [sn9 hS]; exact zn_in (by omega) (by decide)) (c_wI (c_rf (s11 hS) (c_ix (by rw [sn8 hS]; exact zn_in ha (by decide)) (c_ix (by rw [sn8 hS]; exact zn_in ha (by decide)) (c_wI (c_rf (s10 hS) (c_ix (by rw [sn7 hS]; exact zn_in ha (by decide)) (c_ix (by rw [sn7 hS]; exact zn_in ha (by decide)) (c_wI (c_rf (s6 hS) (c_rf (s6 hS) (c_ix (by rw [sn3 hS]; exact zn_in ha (by decide)) ?_))))))))))))
    rw [zn_nat (show 128 * a + an_n A % 128 < 2147483648 by omega)]
    have n98 : ad (s + 9) ≠ ad (s + 8) := ad_ne hA (by omega)
    have n97 : ad (s + 9) ≠ ad (s + 7) := ad_ne hA (by omega)
    have n89 : ad (s + 8) ≠ ad (s + 9) := ad_ne hA (by omega)
    have n87 : ad (s + 8) ≠ ad (s + 7) := ad_ne hA (by omega)
    have n79 : ad (s + 7) ≠ ad (s + 9) := ad_ne hA (by omega)
    have n78 : ad (s + 7) ≠ ad (s + 8) := ad_ne hA (by omega)
    have n39 : ad (s + 3) ≠ ad (s + 9) := ad_ne hA (by omega)
    have n38 : ad (s + 3) ≠ ad (s + 8) := ad_ne hA (by omega)
    have n37 : ad (s + 3) ≠ ad (s + 7) := ad_ne hA (by omega)
    have n34 : ad (s + 3) ≠ ad (s + 4) := ad_ne hA (by omega)
    have n43 : ad (s + 4) ≠ ad (s + 3) := ad_ne hA (by omega)
    have n49 : ad (s + 4) ≠ ad (s + 9) := ad_ne hA (by omega)
    have n48 : ad (s + 4) ≠ ad (s + 8) := ad_ne hA (by omega)
    have n47 : ad (s + 4) ≠ ad (s + 7) := ad_ne hA (by omega)
    have n83 : ad (s + 8) ≠ ad (s + 3) := ad_ne hA (by omega)
    have n84 : ad (s + 8) ≠ ad (s + 4) := ad_ne hA (by omega)
    have n93 : ad (s + 9) ≠ ad (s + 3) := ad_ne hA (by omega)
    have n94 : ad (s + 9) ≠ ad (s + 4) := ad_ne hA (by omega)
    have n73 : ad (s + 7) ≠ ad (s + 3) := ad_ne hA (by omega)
    have n74 : ad (s + 7) ≠ ad (s + 4) := ad_ne hA (by omega)
    have k3 : mI M1 (ad (s + 3)) a = zn (an_x A) := by rw [Fr_I hA g3 (by omega)]; exact h3
    have k4 : mI M1 (ad (s + 4)) a = zn (an_y A) := by rw [Fr_I hA g3 (by omega)]; exact h4
    have k7 : mI M1 (ad (s + 7)) a = zn (an_t A) := by rw [Fr_I hA g3 (by omega)]; exact h7
    simp only [mI_wI, upd_at, n98, n97, n89, n87, n79, n78, n39, n38, n37, reduceIte, k8, k7, k3, zn_one]
    have hx := hv.2.1
    have hy := hv.2.2.1
    have e1 : (zn t = 1) ↔ t = 1 := zn_inj (b := 1) (by omega) (by decide)
    have e3' : (zn t = 3) ↔ t = 3 := zn_inj (b := 3) (by omega) (by decide)
    have fin : ∀ cc : Int32, (zn (an_x A) + 64 + cc) - (zn (an_x A) + 64 + cc) / 64 * 64 = zn (nx (an_x A) t) → p_cl (m_X11_go_154 G (ad s) (zn a) (zn t) (wI (wI (wI M1 (ad (s + 9)) (128 * a + an_n A % 128) (zn t)) (ad (s + 8)) a (zn (an_n A + 1))) (ad (s + 7)) a (zn (an_t A + 1))) (ad (s + 3)) (zn a) (zn (an_x A) + 64) cc) (fun M' _ => mA ad M' s a (anStep t A) ∧ Oth ad M M' s a ∧ Fr (Bk ad (s + 3) (s + 11)) M M') := by
      intro cc hcc
      refine m_go_row (v1 := 0) (v2 := 0) hA hS ha ht hy ?_ rfl ?_ cc (an_x A) hx _ rfl hcc
      · simp only [mI_wI, n43, n49, n48, n47, reduceIte, k4]
      · rintro M' rfl
        have hF : Fr (Bk ad (s + 3) (s + 11)) M (wI (wI (wI (wI (wI M1 (ad (s + 9)) (128 * a + an_n A % 128) (zn t)) (ad (s + 8)) a (zn (an_n A + 1))) (ad (s + 7)) a (zn (an_t A + 1))) (ad (s + 3)) a (zn (nx (an_x A) t))) (ad (s + 4)) a (zn (ny (an_y A) t))) := Fr_wI (Fr_wI (Fr_wI (Fr_wI (Fr_wI (Fr_sub g3 (by omega) (by omega)) (Bk_in (by omega) (by omega))) (Bk_in (by omega) (by omega))) (Bk_in (by omega) (by omega))) (Bk_in (by omega) (by omega))) (Bk_in (by omega) (by omega))
        have n59 : ad (s + 5) ≠ ad (s + 9) := ad_ne hA (by omega)
        have n58 : ad (s + 5) ≠ ad (s + 8) := ad_ne hA (by omega)
        have n57 : ad (s + 5) ≠ ad (s + 7) := ad_ne hA (by omega)
        have n53 : ad (s + 5) ≠ ad (s + 3) := ad_ne hA (by omega)
        have n54 : ad (s + 5) ≠ ad (s + 4) := ad_ne hA (by omega)
        have n69 : ad (s + 6) ≠ ad (s + 9) := ad_ne hA (by omega)
        have n68 : ad (s + 6) ≠ ad (s + 8) := ad_ne hA (by omega)
        have n67 : ad (s + 6) ≠ ad (s + 7) := ad_ne hA (by omega)
        have n63 : ad (s + 6) ≠ ad (s + 3) := ad_ne hA (by omega)
        have n64 : ad (s + 6) ≠ ad (s + 4) := ad_ne hA (by omega)
        have n109 : ad (s + 10) ≠ ad (s + 9) := ad_ne hA (by omega)
        have n108 : ad (s + 10) ≠ ad (s + 8) := ad_ne hA (by omega)
        have n107 : ad (s + 10) ≠ ad (s + 7) := ad_ne hA (by omega)
        have n103 : ad (s + 10) ≠ ad (s + 3) := ad_ne hA (by omega)
        have n104 : ad (s + 10) ≠ ad (s + 4) := ad_ne hA (by omega)
        refine ⟨?_, ⟨fun i hi => ?_, fun k hk => ?_, fun k hk => ?_⟩, hF⟩
        · unfold mA
          simp only [mI_wI, upd_at, n98, n97, n89, n87, n79, n78, n39, n38, n37, n34, n43, n49, n48, n47, n83, n84, n93, n94, n73, n74, n59, n58, n57, n53, n54, n69, n68, n67, n63, n64, n109, n108, n107, n103, n104, reduceIte, st_x, st_y, st_s, st_w, st_t, st_n, st_h]
          refine ⟨trivial, trivial, ?_, ?_, trivial, trivial, fun k k1 k2 k3 => ?_, fun p p1 p2 => ?_⟩
          · rw [Fr_I hA g3 (by omega), h5, hts]
          · rw [Fr_I hA g3 (by omega), h6]
          · by_cases hk : k = 1
            · subst hk
              rw [if_pos (by rw [show an_n A + 1 - 1 = an_n A by omega]), if_pos (by omega)]
            · rw [if_neg (by omega), if_neg (by omega), Fr_I hA g3 (by omega), show an_n A + 1 - k = an_n A - (k - 1) by omega]
              exact h9 (k - 1) (by omega) (by omega) (by omega)
          · exact g1 p p1 p2
        · simp only [mI_wI, upd_at, n98, n97, n89, n87, n79, n78, n39, n38, n37, n34, n43, n49, n48, n47, n83, n84, n93, n94, n73, n74, n59, n58, n57, n53, n54, n69, n68, n67, n63, n64, reduceIte, if_neg hi]
          rw [Fr_I hA g3 (k := s + 3) (by omega), Fr_I hA g3 (k := s + 4) (by omega), Fr_I hA g3 (k := s + 5) (by omega), Fr_I hA g3 (k := s + 6) (by omega), Fr_I hA g3 (k := s + 7) (by omega), Fr_I hA g3 (k := s + 8) (by omega)]
          exact ⟨rfl, rfl, rfl, rfl, rfl, rfl⟩
        · simp only [mI_wI, upd_at, n98, n97, n93, n94, reduceIte]
          rw [if_neg (by omega), Fr_I hA g3 (k := s + 9) (by omega)]
        · simp only [mI_wI, n109, n108, n107, n103, n104, reduceIte]
          exact g2 k hk
    refine c_if (fun g => ?_) (fun g => ?_)
    · refine fin 1 ?_
      rw [w64_1 _ hx]
      unfold nx
      rw [if_pos (e1.mp g)]
    · refine c_if (fun g2 => ?_) (fun g2 => ?_)
      · refine fin (-1) ?_
        rw [w64_m _ hx]
        unfold nx
        rw [if_neg (fun h => g (e1.mpr h)), if_pos (e3'.mp g2)]
      · refine fin 0 ?_
        rw [w64_0 _ hx]
        unfold nx
        rw [if_neg (fun h => g (e1.mpr h)), if_neg (fun h => g2 (e3'.mpr h))]
/-- how far so many latest steps lead to a side -/
def dL (to s : Nat) : Int := if s = to then 1 else if s = (to + 2) % 4 then -1 else 0
def sL (to n : Nat) (h : Nat → Nat) : Nat → Int
  | 0 => 0
  | p + 1 => sL to n h p + dL to (h (n - (p + 1)))
theorem sL_1 {n : Nat} {h : Nat → Nat} : ∀ p : Nat, sL 1 n h p = sE n h p := by
  intro p
  induction p with
  | zero => rfl
  | succ p ih => rw [sL, sE, ih]; rfl
theorem sL_2 {n : Nat} {h : Nat → Nat} : ∀ p : Nat, sL 2 n h p = sS n h p := by
  intro p
  induction p with
  | zero => rfl
  | succ p ih => rw [sL, sS, ih]; rfl
theorem m_led_loop (hS : SSh G ad s) (ha : a < 6) (hv : vA A) (hn : an_n A < 1000000000) (hc : mA ad M s a A) {p to : Nat} (hp : p ≤ an_n A) (hp2 : p ≤ 120) (hto : to = 1 ∨ to = 2) : ∀ (d k f : Nat), k + d = p → d < f → p_cl (m_X11_led_6 G (ad s) (zn a) (zn p) (zn to) f M (Int32.ofInt (sL to (an_n A) (an_h A) k)) (zn (k + 1))) (fun M' r => M' = M ∧ r = Int32.ofInt (sL to (an_n A) (an_h A) p)) := by
  obtain ⟨h3, h4, h5, h6, h7, h8, h9, h10⟩ := hc
  intro d
  induction d with
  | zero =>
    intro k f hk hf
    obtain ⟨f, rfl⟩ : ∃ g, f = g + 1 := ⟨f - 1, by omega⟩
    rw [m_X11_led_6]
    exact c_t (by rw [zn_lt (by omega) (by omega)]; omega) (c_some ⟨rfl, by rw [show k = p by omega]⟩)
  | succ d ih =>
    intro k f hk hf
    obtain ⟨f, rfl⟩ : ∃ g, f = g + 1 := ⟨f - 1, by omega⟩
    have ea : (zn a).toNatClampNeg = a := zn_nat (by omega)
    have e2 : (zn (an_n A) - zn (k + 1)) - (zn (an_n A) - zn (k + 1)) / 128 * 128 = zn ((an_n A - (k + 1)) % 128) := by rw [zn_sub (by omega)]; exact zn_128 (a := 0) (by omega)
    have hm : (an_n A - (k + 1)) % 128 < 128 := Nat.mod_lt _ (by decide)
    have e3 : (128 : Int32) * zn a + zn ((an_n A - (k + 1)) % 128) = zn (128 * a + (an_n A - (k + 1)) % 128) := by rw [show (128 : Int32) * zn a = zn (128 * a) from zn_mul 128 a, zn_add]
    rw [m_X11_led_6]
    refine c_f (by rw [zn_lt (by omega) (by omega)]; omega) (c_rf (s12 hS) (c_rf (s11 hS) (c_ix (by rw [sn8 hS]; exact zn_in ha (by decide)) (c_ck (by decide) ?_))))
    rw [ea, h8, e2, e3]
    refine c_ix (by rw [sn9 hS]; exact zn_in (by omega) (by decide)) (c_bd ?_)
    rw [zn_nat (show 128 * a + (an_n A - (k + 1)) % 128 < 2147483648 by omega), h9 (k + 1) (by omega) (by omega) (by omega)]
    have l1 := hv.2.2.2.2.2 (an_n A - (k + 1))
    have fin : ∀ z : Int32, z = Int32.ofInt (dL to (an_h A (an_n A - (k + 1)))) → p_cl (m_X11_led_65 G (ad s) (zn a) (zn p) (zn to) (fun M v4 v5 => m_X11_led_6 G (ad s) (zn a) (zn p) (zn to) f M v4 v5) M (zn (k + 1)) (Int32.ofInt (sL to (an_n A) (an_h A) k)) z) (fun M' r => M' = M ∧ r = Int32.ofInt (sL to (an_n A) (an_h A) p)) := by
      rintro z rfl
      unfold m_X11_led_65
      refine c_bd (c_bd ?_)
      dsimp only
      rw [zn_one, ← Int32.ofInt_add]
      exact ih (k + 1) f (by omega) (by omega)
    have et : (zn to + 2) - (zn to + 2) / 4 * 4 = zn ((to + 2) % 4) := by rcases hto with rfl | rfl <;> rfl
    have hm4 : (to + 2) % 4 < 4 := Nat.mod_lt _ (by decide)
    unfold dL at fin
    refine c_if (fun g => ?_) (fun g => ?_)
    · rw [zn_inj (by omega) (by omega)] at g
      exact fin 1 (by rw [if_pos g]; rfl)
    · rw [zn_inj (by omega) (by omega)] at g
      refine c_ck (by decide) ?_
      rw [et]
      refine c_if (fun g2 => ?_) (fun g2 => ?_)
      · rw [zn_inj (by omega) (by omega)] at g2
        exact fin (-1) (by rw [if_neg g, if_pos g2]; rfl)
      · rw [zn_inj (by omega) (by omega)] at g2
        exact fin 0 (by rw [if_neg g, if_neg g2]; rfl)
theorem m_led (hS : SSh G ad s) (ha : a < 6) (hv : vA A) (hn : an_n A < 1000000000) (hc : mA ad M s a A) {p to : Nat} (hp : p ≤ an_n A) (hp2 : p ≤ 120) (hto : to = 1 ∨ to = 2) : p_cl (m_X11_led G M (ad s) (zn a) (zn p) (zn to)) (fun M' r => M' = M ∧ r = Int32.ofInt (sL to (an_n A) (an_h A) p)) := m_led_loop hS ha hv hn hc hp hp2 hto p 0 fu (by omega) (by unfold fu; omega)
theorem m_per_loop (hS : SSh G ad s) (ha : a < 6) (hv : vA A) (hn : an_n A < 1000000000) (hc : mA ad M s a A) : ∀ (d p f : Nat), d + p = 121 → 1 ≤ p → d < f → p_cl (m_X11_period_2 G (ad s) (zn a) f M (zn p)) (fun M' r => M' = M ∧ r = zn (perF (an_n A) (an_h A) d p)) := by
  intro d
  induction d with
  | zero =>
    intro p f hp p1 hf
    obtain ⟨f, rfl⟩ : ∃ g, f = g + 1 := ⟨f - 1, by omega⟩
    rw [m_X11_period_2]
    exact c_t (by rw [show (120 : Int32) = zn 120 from rfl, zn_lt (by omega) (by omega)]; omega) (c_some ⟨rfl, rfl⟩)
  | succ d ih =>
    intro p f hp p1 hf
    obtain ⟨f, rfl⟩ : ∃ g, f = g + 1 := ⟨f - 1, by omega⟩
    have e : (121 : Int32) * zn a + zn p = zn (121 * a + p) := by rw [show (121 : Int32) * zn a = zn (121 * a) from zn_mul 121 a, zn_add]
    have hr := hc.2.2.2.2.2.2.2 p p1 (by omega)
    have hrl := rn_le (h := an_h A) (p := p) (an_n A)
    rw [m_X11_period_2, e]
    refine c_f (by rw [show (120 : Int32) = zn 120 from rfl, zn_lt (by omega) (by omega)]; omega) (c_rf (s13 hS) (c_ix (by rw [sn10 hS]; exact zn_in (by omega) (by decide)) ?_))
    rw [zn_nat (show 121 * a + p < 2147483648 by omega), hr, show (2 : Int32) * zn p = zn (2 * p) from zn_mul 2 p]
    have next : pok (an_n A) (an_h A) p = false → p_cl (m_X11_period_47 G (ad s) (zn a) (fun M v2 => m_X11_period_2 G (ad s) (zn a) f M v2) M (zn p)) (fun M' r => M' = M ∧ r = zn (perF (an_n A) (an_h A) (d + 1) p)) := by
      intro hk
      unfold m_X11_period_47
      refine c_bd ?_
      dsimp only
      rw [zn_one, perF, hk]
      exact ih (p + 1) f (by omega) (by omega) (by omega)
    have done : pok (an_n A) (an_h A) p = true → p_cl (m_X11_period_45 G (ad s) (zn a) M (zn p)) (fun M' r => M' = M ∧ r = zn (perF (an_n A) (an_h A) (d + 1) p)) := by
      intro hk
      unfold m_X11_period_45
      refine c_some ⟨rfl, ?_⟩
      rw [perF, hk, if_pos rfl]
    have hp := rn_per (n := an_n A) (h := an_h A) (p := p) p1
    refine c_if (fun g => ?_) (fun g => ?_)
    · rw [zn_lt (by omega) (by omega)] at g
      refine next ?_
      cases hk : pok (an_n A) (an_h A) p with
      | false => rfl
      | true =>
        exfalso
        unfold pok at hk
        rw [Bool.and_eq_true, Bool.and_eq_true] at hk
        have := hp.mpr ⟨of_decide_eq_true hk.1, hk.2.1⟩
        omega
    · rw [zn_lt (by omega) (by omega)] at g
      have hq := hp.mp (by omega)
      have ep : pok (an_n A) (an_h A) p = (sE (an_n A) (an_h A) p != 0 || sS (an_n A) (an_h A) p != 0) := by
        unfold pok
        rw [decide_eq_true hq.1, hq.2]
        rfl
      have bE := sE_le (n := an_n A) (h := an_h A) p
      have bS := sS_le (n := an_n A) (h := an_h A) p
      have z1 := ofInt_zero (x := sE (an_n A) (an_h A) p) (by omega) (by omega)
      have z2 := ofInt_zero (x := sS (an_n A) (an_h A) p) (by omega) (by omega)
      refine c_clm (m_led hS ha hv hn hc (to := 1) (by omega) (by omega) (Or.inl rfl)) ?_
      rintro M1 r ⟨rfl, rfl⟩
      rw [sL_1]
      refine c_if (fun q1 => ?_) (fun q1 => ?_)
      · refine c_clm (m_led hS ha hv hn hc (to := 2) (by omega) (by omega) (Or.inr rfl)) ?_
        rintro M2 r ⟨rfl, rfl⟩
        rw [sL_2]
        refine c_if (fun q2 => ?_) (fun q2 => ?_)
        · exact next (by rw [ep, z1.mp q1, z2.mp q2]; rfl)
        · exact done (by rw [ep, Bool.or_eq_true, bne_iff_ne, bne_iff_ne]; exact Or.inr (fun h => q2 (z2.mpr h)))
      · exact done (by rw [ep, Bool.or_eq_true, bne_iff_ne, bne_iff_ne]; exact Or.inl (fun h => q1 (z1.mpr h)))
theorem cl_eq {α : Type} {x : Option (mS × α)} {M : mS} {v : α} (h : p_cl x (fun M' r => M' = M ∧ r = v)) : x = some (M, v) := by
  obtain ⟨M1, r, e, rfl, rfl⟩ := h
  exact e
theorem m_per (hS : SSh G ad s) (ha : a < 6) (hv : vA A) (hn : an_n A < 1000000000) (hc : mA ad M s a A) : m_X11_period G M (ad s) (zn a) = some (M, zn (anP A)) := cl_eq (m_per_loop hS ha hv hn hc 120 1 fu (by omega) (by omega) (by unfold fu; omega))
end AntM2
