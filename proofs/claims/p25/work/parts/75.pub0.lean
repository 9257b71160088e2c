/-! count, mean, digest -/
def cntV (Y : aY) (P : aP) (tl w : Nat) : Int32 := if w = 0 then zn (yd_t Y) else if w = 1 then zn (pg_r P) else if w = 2 then zn (yd_n Y) else if w = 3 then zn (pg_o P) else if w = 10 then zn tl else zn (aTot Y w)
def dgC (Y : aY) (P : aP) (tl : Nat) : Nat → Int64
  | 0 => 911
  | w + 1 => dgC Y P tl w * 31 + Int32.toInt64 (cntV Y P tl w)
def dgR2 (P : aP) (r : Nat) (d : Int64) : Nat → Int64
  | 0 => d
  | c + 1 => dgR2 P r d c * 31 + Int32.toInt64 (zn (pg_t P r (c % pg_z P r)))
def dgR (P : aP) (d : Int64) : Nat → Int64
  | 0 => d
  | r + 1 => dgR2 P r (dgR P d r) 6
def dgA2 (A : aA) (d : Int64) : Nat → Int64
  | 0 => d
  | w + 1 => dgA2 A d w * 31 + Int32.toInt64 (anAns A w)
def dgA (a : Nat → aA) (d : Int64) : Nat → Int64
  | 0 => d
  | i + 1 => dgA2 (a i) (dgA a d i) 9
def dgS (c : Nat → Nat) (d : Int64) : Nat → Int64
  | 0 => d
  | p + 1 => dgS c d p * 31 + Int32.toInt64 (zn (c p))
def dgAll (Y : aY) (P : aP) (tl : Nat) : Int64 := dgS (yd_c Y) (dgA (yd_a Y) (dgR P (dgC Y P tl 11) (pg_r P)) (yd_n Y)) 4096
theorem nan_le {n : Nat} (h : n ≤ 20480) : (FP.ddiv (FP.i2d (zn n)) (4661225614328463360 : UInt64)) &&& 0x7fffffffffffffff ≤ 0x7ff0000000000000 := by
  have := nan_all (n / 144) (by omega) (n % 144) (by omega)
  rw [show 144 * (n / 144) + n % 144 = n by omega] at this
  exact (of_decide_eq_true this).1
theorem nan_eq {n : Nat} (h : n ≤ 20480) : FP.dcmp (FP.ddiv (FP.i2d (zn n)) (4661225614328463360 : UInt64)) (FP.ddiv (FP.i2d (zn n)) (4661225614328463360 : UInt64)) = some Ordering.eq := by
  have := nan_all (n / 144) (by omega) (n % 144) (by omega)
  rw [show 144 * (n / 144) + n % 144 = n by omega] at this
  exact (of_decide_eq_true this).2
def totC (c : Nat → Nat) : Nat → Nat
  | 0 => 0
  | k + 1 => totC c k + c k
theorem tot_cn {c : Nat → Nat} (hv : ∀ p, c p < 6) : ∀ k : Nat, totC c k = 1 * cn c 1 k + 2 * cn c 2 k + 3 * cn c 3 k + 4 * cn c 4 k + 5 * cn c 5 k := by
  intro k
  induction k with
  | zero => rfl
  | succ k ih =>
    rw [totC, cn, cn, cn, cn, cn, ih]
    have := hv k
    rcases (show c k = 0 ∨ c k = 1 ∨ c k = 2 ∨ c k = 3 ∨ c k = 4 ∨ c k = 5 by omega) with e | e | e | e | e | e <;> simp [e] <;> omega
theorem tot_csum {c : Nat → Nat} (hv : ∀ p, c p < 6) : totC c 4096 = csum c 6 := by
  rw [tot_cn hv]
  unfold csum csum csum csum csum csum csum
  omega
theorem totC_le {c : Nat → Nat} (hv : ∀ p, c p < 6) : ∀ k : Nat, totC c k ≤ 5 * k := by
  intro k
  induction k with
  | zero => exact Nat.le_refl _
  | succ k ih =>
    rw [totC]
    have := hv k
    omega
section Count
variable {G : gS} {ad : Nat → Nat} {M : mS} {Y : aY} {P : aP} {T : Nat → Nat} {tl b : Nat} {ea : Int32} {post : gS → mS → Prop}
theorem c_count (hS : Sh G ad) (hv : vY b Y) (hc : CA ad M Y P T tl ea) {w : Nat} (hw : w < 11) : m_X9_count G M (ad 0) (zn w) = some (M, cntV Y P tl w) := by
  obtain ⟨f4, f5, f6, f7, f8⟩ := id hc.1.2.1
  have ht : ∀ {w : Nat}, 4 ≤ w → w ≤ 9 → m_X8_total G M (ad 21) (zn w) = some (M, zn (aTot Y w)) := fun h1 h2 => c_total (sh_Y21 hS) hv hc.1 h1 h2
  refine cl_eq ?_
  unfold m_X9_count
  refine c_f (zn_nn (by omega)) (c_t (by rw [show (11 : Int32) = zn 11 from rfl, zn_lt (by omega) (by omega)]; exact hw) ?_)
  match w, hw with
  | 0, _ => exact c_t rfl (c_rf (sh_x2 hS) (c_some ⟨rfl, f5⟩))
  | 1, _ => exact c_f (by decide) (c_t rfl (c_rf (sh_x1 hS) (c_some ⟨rfl, hc.2.1.1.1⟩)))
  | 2, _ => exact c_f (by decide) (c_f (by decide) (c_t rfl (c_rf (sh_x2 hS) (c_some ⟨rfl, f4⟩))))
  | 3, _ => exact c_f (by decide) (c_f (by decide) (c_f (by decide) (c_t rfl (c_rf (sh_x1 hS) (c_some ⟨rfl, hc.2.1.1.2.1⟩)))))
  | 4, _ =>
    refine c_f (by decide) (c_f (by decide) (c_f (by decide) (c_f (by decide) (c_t rfl (c_rf (sh_x2 hS) ?_)))))
    rw [ht (by decide) (by decide)]
    exact c_cl (c_some (c_some ⟨rfl, rfl⟩))
  | 5, _ =>
    refine c_f (by decide) (c_f (by decide) (c_f (by decide) (c_f (by decide) (c_f (by decide) (c_t rfl (c_rf (sh_x2 hS) ?_))))))
    rw [ht (by decide) (by decide)]
    exact c_cl (c_some (c_some ⟨rfl, rfl⟩))
  | 6, _ =>
    refine c_f (by decide) (c_f (by decide) (c_f (by decide) (c_f (by decide) (c_f (by decide) (c_f (by decide) (c_t rfl (c_rf (sh_x2 hS) ?_)))))))
    rw [ht (by decide) (by decide)]
    exact c_cl (c_some (c_some ⟨rfl, rfl⟩))
  | 7, _ =>
    refine c_f (by decide) (c_f (by decide) (c_f (by decide) (c_f (by decide) (c_f (by decide) (c_f (by decide) (c_f (by decide) (c_t rfl (c_rf (sh_x2 hS) ?_))))))))
    rw [ht (by decide) (by decide)]
    exact c_cl (c_some (c_some ⟨rfl, rfl⟩))
  | 8, _ =>
    refine c_f (by decide) (c_f (by decide) (c_f (by decide) (c_f (by decide) (c_f (by decide) (c_f (by decide) (c_f (by decide) (c_f (by decide) (c_t rfl (c_rf (sh_x2 hS) ?_)))))))))
    rw [ht (by decide) (by decide)]
    exact c_cl (c_some (c_some ⟨rfl, rfl⟩))
  | 9, _ =>
    refine c_f (by decide) (c_f (by decide) (c_f (by decide) (c_f (by decide) (c_f (by decide) (c_f (by decide) (c_f (by decide) (c_f (by decide) (c_f (by decide) (c_t rfl (c_rf (sh_x2 hS) ?_))))))))))
    rw [ht (by decide) (by decide)]
    exact c_cl (c_some (c_some ⟨rfl, rfl⟩))
  | 10, _ => exact c_f (by decide) (c_f (by decide) (c_f (by decide) (c_f (by decide) (c_f (by decide) (c_f (by decide) (c_f (by decide) (c_f (by decide) (c_f (by decide) (c_f (by decide) (c_t rfl (c_rf (sh_x0 hS) (c_some ⟨rfl, hc.2.2.1⟩))))))))))))
theorem c_dg_stones (hS : Sh G ad) (hc : cYc ad M 21 (yd_c Y)) {d0 : Int64} : ∀ (d p f : Nat), p + d = 4096 → d < f → m_X9_digest_143 G (ad 0) f M (dgS (yd_c Y) d0 p) (zn p) = some (M, dgS (yd_c Y) d0 4096) := by
  intro d
  induction d with
  | zero =>
    intro p f hp hf
    obtain ⟨f, rfl⟩ : ∃ g, f = g + 1 := ⟨f - 1, by omega⟩
    have hp : p = 4096 := by omega
    subst hp
    rw [m_X9_digest_143, if_pos (show (4096 : Int32) ≤ zn 4096 from Int32.le_refl _)]
  | succ d ih =>
    intro p f hp hf
    obtain ⟨f, rfl⟩ : ∃ g, f = g + 1 := ⟨f - 1, by omega⟩
    rw [m_X9_digest_143, if_neg (by rw [show (4096 : Int32) = zn 4096 from rfl, zn_le (by omega) (by omega)]; omega), sh_x2 hS]
    unfold o_rf o_cl o_bd
    dsimp only
    rw [c_colourAt (sh_Y21 hS) hc (show p < 4096 by omega)]
    dsimp only
    rw [zn_one]
    exact ih (p + 1) f (by omega) (by omega)
theorem c_dg_ant (hA : Inj ad) (hS : Sh G ad) (hv : vY b Y) (hb : b < 900000000) {i : Nat} (hi : i < yd_n Y) {d0 : Int64} (kb : mS → Int64 → Int32 → Option (mS × Int64)) {Q : mS → Int64 → Prop} : ∀ (d w f : Nat) (M : mS), w + d = 9 → d < f → CA ad M Y P T tl ea → (∀ M', CA ad M' Y P T tl ea → Fr (Bk ad 0 66) M M' → p_cl (kb M' (dgA2 (yd_a Y i) d0 9) (zn (i + 1))) Q) → p_cl (m_X9_digest_100 G (ad 0) kb f M (dgA2 (yd_a Y i) d0 w) (zn i) (zn w)) Q := by
  have hn := hv.2.1
  intro d
  induction d with
  | zero =>
    intro w f M hw hf hc hk
    obtain ⟨f, rfl⟩ : ∃ g, f = g + 1 := ⟨f - 1, by omega⟩
    have hw : w = 9 := by omega
    subst hw
    rw [m_X9_digest_100]
    refine c_t (Int32.le_refl _) (c_bd ?_)
    rw [zn_one]
    exact hk M hc Fr_rf
  | succ d ih =>
    intro w f M hw hf hc hk
    obtain ⟨f, rfl⟩ : ∃ g, f = g + 1 := ⟨f - 1, by omega⟩
    rw [m_X9_digest_100]
    refine c_f (by rw [show (9 : Int32) = zn 9 from rfl, zn_le (by omega) (by omega)]; omega) (c_rf (sh_x2 hS) (c_rf (sh_Y21 hS).2.2.2.1 ?_))
    rw [(sh_Y21 hS).2.2.2.2.2.2.2.2.1, zn_nat (show i < 2147483648 by omega)]
    refine c_ix (zn_in (by omega) (by decide)) (c_rf ((sh_Y21 hS).2.2.2.2.1 i (by omega)) (c_clm (cA_ans hA ((sh_Y21 hS).2.2.2.2.2.2.2.2.2 i (by omega)) (hc.1.2.2 i hi) (hv.2.2 i hi).1 (by have := (hv.2.2 i hi).2; omega) (w := w) (by omega)) ?_))
    rintro M1 r ⟨rfl, g1, g2⟩
    obtain ⟨g3, g4⟩ := CA_ant0 hA hv hc hi g1 g2
    refine c_bd (c_bd ?_)
    rw [zn_one]
    exact ih (w + 1) f M1 (by omega) (by omega) g3 (fun M' q1 q2 => hk M' q1 (Fr_tr g4 q2))
theorem c_dg_ants (hA : Inj ad) (hS : Sh G ad) (hv : vY b Y) (hb : b < 900000000) {d0 : Int64} : ∀ (d i f : Nat) (M : mS), i + d = yd_n Y → d < f → CA ad M Y P T tl ea → p_cl (m_X9_digest_86 G (ad 0) f M (dgA (yd_a Y) d0 i) (zn i)) (fun M' r => r = dgS (yd_c Y) (dgA (yd_a Y) d0 (yd_n Y)) 4096 ∧ CA ad M' Y P T tl ea ∧ Fr (Bk ad 0 66) M M') := by
  have hn := hv.2.1
  intro d
  induction d with
  | zero =>
    intro i f M hi hf hc
    obtain ⟨f, rfl⟩ : ∃ g, f = g + 1 := ⟨f - 1, by omega⟩
    have hi : i = yd_n Y := by omega
    subst hi
    rw [m_X9_digest_86]
    refine c_rf (sh_x2 hS) ?_
    rw [hc.1.2.1.1]
    refine c_t (Int32.le_refl _) ?_
    have := c_dg_stones (Y := Y) (d0 := dgA (yd_a Y) d0 (yd_n Y)) hS hc.1.1 4096 0 fu (by omega) (by unfold fu; omega)
    rw [show zn 0 = (0 : Int32) from rfl, show dgS (yd_c Y) (dgA (yd_a Y) d0 (yd_n Y)) 0 = dgA (yd_a Y) d0 (yd_n Y) from rfl] at this
    rw [this]
    exact c_some ⟨rfl, hc, Fr_rf⟩
  | succ d ih =>
    intro i f M hi hf hc
    obtain ⟨f, rfl⟩ : ∃ g, f = g + 1 := ⟨f - 1, by omega⟩
    rw [m_X9_digest_86]
    refine c_rf (sh_x2 hS) ?_
    rw [hc.1.2.1.1]
    refine c_f (by rw [zn_le (by omega) (by omega)]; omega) ?_
    refine c_dg_ant (d0 := dgA (yd_a Y) d0 i) hA hS hv hb (i := i) (by omega) _ 9 0 fu M (by omega) (by unfold fu; omega) hc ?_
    intro M1 g1 g2
    refine c_mono (ih (i + 1) f M1 (by omega) (by omega) g1) ?_
    rintro M2 r ⟨q1, q2, q3⟩
    exact ⟨q1, q2, Fr_tr g2 q3⟩
theorem c_dg_rule (hS : Sh G ad) (hvP : vP (yd_n Y) P) (hc : CA ad M Y P T tl ea) {r : Nat} (hr : r < pg_r P) {d0 : Int64} (kb : mS → Int64 → Int32 → Option (mS × Int64)) {Q : mS → Int64 → Prop} (hk : p_cl (kb M (dgR2 P r d0 6) (zn (r + 1))) Q) : ∀ (d c f : Nat), c + d = 6 → d < f → p_cl (m_X9_digest_47 G (ad 0) kb f M (dgR2 P r d0 c) (zn r) (zn c)) Q := by
  have h5 := hvP.1
  intro d
  induction d with
  | zero =>
    intro c f hcc hf
    obtain ⟨f, rfl⟩ : ∃ g, f = g + 1 := ⟨f - 1, by omega⟩
    have hcc : c = 6 := by omega
    subst hcc
    rw [m_X9_digest_47]
    refine c_t (Int32.le_refl _) (c_bd ?_)
    rw [zn_one]
    exact hk
  | succ d ih =>
    intro c f hcc hf
    obtain ⟨f, rfl⟩ : ∃ g, f = g + 1 := ⟨f - 1, by omega⟩
    rw [m_X9_digest_47]
    refine c_f (by rw [show (6 : Int32) = zn 6 from rfl, zn_le (by omega) (by omega)]; omega) (c_rf (sh_x1 hS) ?_)
    rw [c_turn (sh_P3 hS) hvP hc.2.1 hr (show c < 1000 by omega)]
    refine c_cl (c_some (c_bd (c_bd ?_)))
    rw [zn_one]
    exact ih (c + 1) f (by omega) (by omega)
theorem c_dg_rules (hA : Inj ad) (hS : Sh G ad) (hv : vY b Y) (hb : b < 900000000) (hvP : vP (yd_n Y) P) (hc : CA ad M Y P T tl ea) {d0 : Int64} : ∀ (d r f : Nat), r + d = pg_r P → d < f → p_cl (m_X9_digest_33 G (ad 0) f M (dgR P d0 r) (zn r)) (fun M' x => x = dgS (yd_c Y) (dgA (yd_a Y) (dgR P d0 (pg_r P)) (yd_n Y)) 4096 ∧ CA ad M' Y P T tl ea ∧ Fr (Bk ad 0 66) M M') := by
  have h5 := hvP.1
  intro d
  induction d with
  | zero =>
    intro r f hr hf
    obtain ⟨f, rfl⟩ : ∃ g, f = g + 1 := ⟨f - 1, by omega⟩
    have hr : r = pg_r P := by omega
    subst hr
    rw [m_X9_digest_33]
    refine c_rf (sh_x1 hS) ?_
    rw [hc.2.1.1.1]
    refine c_t (Int32.le_refl _) ?_
    exact c_dg_ants (d0 := dgR P d0 (pg_r P)) hA hS hv hb (yd_n Y) 0 fu M (by omega) (by have := hv.2.1; unfold fu; omega) hc
  | succ d ih =>
    intro r f hr hf
    obtain ⟨f, rfl⟩ : ∃ g, f = g + 1 := ⟨f - 1, by omega⟩
    rw [m_X9_digest_33]
    refine c_rf (sh_x1 hS) ?_
    rw [hc.2.1.1.1]
    refine c_f (by rw [zn_le (by omega) (by omega)]; omega) ?_
    exact c_dg_rule (d0 := dgR P d0 r) hS hvP hc (r := r) (by omega) _ (ih (r + 1) f (by omega) (by omega)) 6 0 fu (by omega) (by unfold fu; omega)
theorem c_dg (hA : Inj ad) (hS : Sh G ad) (hv : vY b Y) (hb : b < 900000000) (hvP : vP (yd_n Y) P) (hc : CA ad M Y P T tl ea) : ∀ (d w f : Nat), w + d = 11 → d < f → p_cl (m_X9_digest_6 G (ad 0) f M (dgC Y P tl w) (zn w)) (fun M' x => x = dgAll Y P tl ∧ CA ad M' Y P T tl ea ∧ Fr (Bk ad 0 66) M M') := by
  intro d
  induction d with
  | zero =>
    intro w f hw hf
    obtain ⟨f, rfl⟩ : ∃ g, f = g + 1 := ⟨f - 1, by omega⟩
    have hw : w = 11 := by omega
    subst hw
    rw [m_X9_digest_6]
    refine c_t (Int32.le_refl _) ?_
    exact c_dg_rules (d0 := dgC Y P tl 11) hA hS hv hb hvP hc (pg_r P) 0 fu (by omega) (by have := hvP.1; unfold fu; omega)
  | succ d ih =>
    intro w f hw hf
    obtain ⟨f, rfl⟩ : ∃ g, f = g + 1 := ⟨f - 1, by omega⟩
    rw [m_X9_digest_6, c_count hS hv hc (show w < 11 by omega)]
    refine c_f (by rw [show (11 : Int32) = zn 11 from rfl, zn_le (by omega) (by omega)]; omega) (c_cl (c_some (c_bd (c_bd ?_))))
    rw [zn_one]
    exact ih (w + 1) f (by omega) (by omega)
end Count
