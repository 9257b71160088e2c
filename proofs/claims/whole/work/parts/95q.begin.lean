/-! the reference: a state begins out of a plan -/
/-- nothing has been done in a yard -/
def YI (Y : aY) : Prop := (yd_t Y = 0 ∧ yd_m Y = 0 ∧ yd_w Y = 0 ∧ yd_k Y = 0) ∧ (∀ p, yd_c Y p < 6) ∧ ∀ i, i < yd_n Y → (an_w (yd_a Y i) = 1 ∧ an_t (yd_a Y i) = 0 ∧ an_n (yd_a Y i) = 0) ∧ vA (yd_a Y i)
section BeginM
variable {G : gS} {ad : Nat → Nat} {Y : aY}
theorem b_row (hA : Inj ad) (hS : SSh G ad 80) {c : Nat → Nat} (h6 : ∀ p, c p < 6) {v1 : Nat} (hv : v1 < 64) {kb : mS → Int32 → Option (mS × Unit)} {Q : mS → Unit → Prop} : ∀ (d k f : Nat) (M : mS), k + d = 64 → d < f → (∀ p, p < 4096 → mI M (ad 81) p = zn (c p)) → mI M (ad 82) v1 = zn (nz c (64 * v1) k) → (∀ M', (∀ b, b ≠ 82 → mI M' (ad b) = mI M (ad b)) → (∀ r, r ≠ v1 → mI M' (ad 82) r = mI M (ad 82) r) → mI M' (ad 82) v1 = zn (nz c (64 * v1) 64) → Fr (Bk ad 80 92) M M' → p_cl (kb M' (zn (v1 + 1))) Q) → p_cl (m_X11_begin_55 G (ad 80) kb f M (zn v1) (zn k)) Q := by
  intro d
  induction d with
  | zero =>
    intro k f M hk hf hc hr H
    obtain ⟨f, rfl⟩ : ∃ g, f = g + 1 := ⟨f - 1, by omega⟩
    rw [m_X11_begin_55]
    refine c_t (by rw [show (64 : Int32) = zn 64 from rfl, zn_le (by omega) (by omega)]; omega) (c_bd ?_)
    rw [zn_one]
    refine H M (fun _ _ => rfl) (fun _ _ => rfl) ?_ Fr_rf
    rw [show k = 64 by omega] at hr
    exact hr
  | succ d ih =>
    intro k f M hk hf hc hr H
    obtain ⟨f, rfl⟩ : ∃ g, f = g + 1 := ⟨f - 1, by omega⟩
    rw [m_X11_begin_55]
    refine c_f (by rw [show (64 : Int32) = zn 64 from rfl, zn_le (by omega) (by omega)]; omega) ?_
    refine c_rf (s5 hS) (c_ix (by rw [sn2 hS]; exact zn_in (by omega) (by decide)) (c_rf (s4 hS) ?_))
    rw [zrc']
    refine c_ix (by rw [sn1 hS]; exact zn_in (by omega) (by decide)) ?_
    rw [zn_nat (show 64 * v1 + k < 2147483648 by omega), zn_nat (show v1 < 2147483648 by omega), show mI M (ad (80 + 1)) (64 * v1 + k) = zn (c (64 * v1 + k)) from hc _ (by omega), show mI M (ad (80 + 2)) v1 = zn (nz c (64 * v1) k) from hr]
    have step : ∀ (t : Nat), t = (if c (64 * v1 + k) = 0 then 0 else 1) → p_cl (m_X11_begin_87 G (ad 80) kb (fun M v1 v2 => m_X11_begin_55 G (ad 80) kb f M v1 v2) M (zn v1) (zn k) (ad (80 + 2)) (zn v1) (zn (nz c (64 * v1) k)) (zn t)) Q := fun t ht => by
      unfold m_X11_begin_87
      refine c_ix (by rw [sn2 hS]; exact zn_in (by omega) (by decide)) (c_wI (c_bd ?_))
      rw [zn_nat (show v1 < 2147483648 by omega), zn_one, zn_add]
      refine ih (k + 1) f _ (by omega) (by omega) (fun p hp => ?_) ?_ (fun M' q1 q2 q3 q4 => H M' (fun b hb => ?_) (fun r hr2 => ?_) q3 (Fr_tr (Fr_wI Fr_rf (Bk_in (by decide) (by decide))) q4))
      · rw [wI_ne hA (Or.inl (by decide))]; exact hc p hp
      · show mI (wI M (ad 82) v1 _) (ad 82) v1 = zn (nz c (64 * v1) k + if c (64 * v1 + k) = 0 then 0 else 1)
        rw [wI_eq, ht]
      · rw [q1 b hb, mI_wI, if_neg (ad_ne hA hb)]
      · rw [q2 r hr2]; exact wI_ne hA (Or.inr hr2)
    refine c_if (fun g => ?_) (fun g => ?_)
    · rw [show (0 : Int32) = zn 0 from rfl, zn_le (by have := h6 (64 * v1 + k); omega) (by decide)] at g
      exact step 0 (by rw [if_pos (by omega)])
    · rw [show (0 : Int32) = zn 0 from rfl, zn_le (by have := h6 (64 * v1 + k); omega) (by decide)] at g
      exact step 1 (by rw [if_neg (by omega)])
theorem b_ants (hA : Inj ad) (hS : SSh G ad 80) : ∀ (d i f : Nat) (M : mS), i + d = 6 → d < f → (∀ j, j < i → mI M (ad 86) j = 0 ∧ mI M (ad 87) j = 0 ∧ mI M (ad 88) j = 0 ∧ ∀ q, q < 121 → mI M (ad 90) (121 * j + q) = 0) → p_cl (m_X11_begin_157 G (ad 80) f M (zn i)) (fun M' _ => (∀ j, j < 6 → mI M' (ad 86) j = 0 ∧ mI M' (ad 87) j = 0 ∧ mI M' (ad 88) j = 0 ∧ ∀ q, q < 121 → mI M' (ad 90) (121 * j + q) = 0) ∧ (∀ b, b < 86 → mI M' (ad b) = mI M (ad b)) ∧ Fr (Bk ad 80 92) M M') := by
  intro d
  induction d with
  | zero =>
    intro i f M hi hf h
    obtain ⟨f, rfl⟩ : ∃ g, f = g + 1 := ⟨f - 1, by omega⟩
    rw [m_X11_begin_157]
    exact c_t (by rw [show (6 : Int32) = zn 6 from rfl, zn_le (by omega) (by omega)]; omega) (c_some ⟨fun j hj => h j (by omega), fun _ _ => rfl, Fr_rf⟩)
  | succ d ih =>
    intro i f M hi hf h
    obtain ⟨f, rfl⟩ : ∃ g, f = g + 1 := ⟨f - 1, by omega⟩
    rw [m_X11_begin_157]
    refine c_f (by rw [show (6 : Int32) = zn 6 from rfl, zn_le (by omega) (by omega)]; omega) (c_rf (s9 hS) (c_ix (by rw [sn6 hS]; exact zn_in (by omega) (by decide)) (c_wI (c_rf (s10 hS) (c_ix (by rw [sn7 hS]; exact zn_in (by omega) (by decide)) (c_wI (c_clm (m_forget hA hS (a := i) (by omega)) ?_)))))))
    rw [zn_nat (show i < 2147483648 by omega)]
    rintro M1 _ ⟨a1, a2, a3, a4, a5⟩
    refine c_bd ?_
    rw [zn_one]
    have k6 : ∀ j, mI M1 (ad 86) j = if j = i then 0 else mI M (ad 86) j := fun j => by
      rw [a3 86 (by decide) (by decide), mI_wI, if_neg (ad_ne hA (by decide)), mI_wI, if_pos rfl, upd_at]
    have k7 : ∀ j, mI M1 (ad 87) j = if j = i then 0 else mI M (ad 87) j := fun j => by
      rw [a3 87 (by decide) (by decide), mI_wI, if_pos rfl, upd_at, mI_wI, if_neg (ad_ne hA (by decide))]
    have k8 : ∀ j, mI M1 (ad 88) j = if j = i then 0 else mI M (ad 88) j := fun j => by
      rw [show mI M1 (ad 88) = _ from a1, upd_at, mI_wI, if_neg (ad_ne hA (by decide)), mI_wI, if_neg (ad_ne hA (by decide))]
    have k10 : ∀ k, (k < 121 * i ∨ 121 * i + 121 ≤ k) → mI M1 (ad 90) k = mI M (ad 90) k := fun k hk => by
      rw [a4.2.2 k hk, mI_wI, if_neg (ad_ne hA (by decide)), mI_wI, if_neg (ad_ne hA (by decide))]
    refine c_mono (ih (i + 1) f M1 (by omega) (by omega) (fun j hj => ?_)) ?_
    · by_cases e : j = i
      · rw [k6, if_pos e, k7, if_pos e, k8, if_pos e, e]
        exact ⟨rfl, rfl, rfl, a2⟩
      · obtain ⟨b1, b2, b3, b4⟩ := h j (by omega)
        rw [k6, if_neg e, k7, if_neg e, k8, if_neg e]
        exact ⟨b1, b2, b3, fun q hq => by rw [k10 _ (by omega)]; exact b4 q hq⟩
    · rintro M2 _ ⟨b1, b2, b3⟩
      refine ⟨b1, fun b hb => ?_, Fr_tr (Fr_tr (Fr_wI (Fr_wI Fr_rf (Bk_in (by decide) (by decide))) (Bk_in (by decide) (by decide))) (Fr_sub a5 (by decide) (by decide))) b3⟩
      rw [b2 b hb, a3 b (by omega) (by omega), mI_wI, if_neg (ad_ne hA (by omega)), mI_wI, if_neg (ad_ne hA (by omega))]
theorem b_rows (hA : Inj ad) (hS : SSh G ad 80) (hK : KSh G ad) (hL : LSh G ad 110) {c : Nat → Nat} (h6 : ∀ p, c p < 6) : ∀ (d r f : Nat) (M : mS), r + d = 64 → d < f → (∀ p, p < 4096 → mI M (ad 81) p = zn (c p)) → (∀ j, j < r → mI M (ad 82) j = zn (nz c (64 * j) 64)) → p_cl (m_X11_begin_40 G (ad 80) f M (zn r)) (fun M' _ => mYc ad M' 80 c ∧ mI M' (ad 80) = mI M (ad 80) ∧ (∀ i, i < 6 → mI M' (ad 83) i = mI M (ad 115) i ∧ mI M' (ad 84) i = mI M (ad 116) i ∧ mI M' (ad 85) i = mI M (ad 117) i) ∧ (∀ j, j < 6 → mI M' (ad 86) j = 0 ∧ mI M' (ad 87) j = 0 ∧ mI M' (ad 88) j = 0 ∧ ∀ q, q < 121 → mI M' (ad 90) (121 * j + q) = 0) ∧ Fr (Bk ad 80 92) M M') := by
  intro d
  induction d with
  | zero =>
    intro r f M hr hf hc hn
    obtain ⟨f, rfl⟩ : ∃ g, f = g + 1 := ⟨f - 1, by omega⟩
    rw [m_X11_begin_40]
    refine c_t (by rw [show (64 : Int32) = zn 64 from rfl, zn_le (by omega) (by omega)]; omega) ?_
    refine c_rf (s15 hS) (c_rf hK (c_rf (l7 hL) (c_rf (s6 hS) (c_clm (m_copy hA (ln5 hL) (sn3 hS) (by decide)) ?_))))
    rintro M1 _ ⟨a1, a2, a3⟩
    refine c_rf (s15 hS) (c_rf hK (c_rf (l8 hL) (c_rf (s7 hS) (c_clm (m_copy hA (ln6 hL) (sn4 hS) (by decide)) ?_))))
    rintro M2 _ ⟨b1, b2, b3⟩
    refine c_rf (s15 hS) (c_rf hK (c_rf (l9 hL) (c_rf (s8 hS) (c_clm (m_copy hA (ln7 hL) (sn5 hS) (by decide)) ?_))))
    rintro M3 _ ⟨c1, c2, c3⟩
    refine c_mono (b_ants hA hS 6 0 fu M3 (by decide) (by decide) (fun j hj => absurd hj (Nat.not_lt_zero j))) ?_
    rintro M4 _ ⟨d1, d2, d3⟩
    refine ⟨⟨fun p hp => ?_, fun j hj => ?_⟩, ?_, fun i hi => ⟨?_, ?_, ?_⟩, d1, ?_⟩
    · rw [d2 81 (by decide), c2 81 (by decide), b2 81 (by decide), a2 81 (by decide)]; exact hc p hp
    · rw [d2 82 (by decide), c2 82 (by decide), b2 82 (by decide), a2 82 (by decide)]; exact hn j (by omega)
    · rw [d2 80 (by decide), c2 80 (by decide), b2 80 (by decide), a2 80 (by decide)]
    · rw [d2 83 (by decide), c2 83 (by decide), b2 83 (by decide)]; exact a1 i hi
    · rw [d2 84 (by decide), c2 84 (by decide), show mI M2 (ad 84) i = _ from b1 i hi, a2 116 (by decide)]
    · rw [d2 85 (by decide), show mI M3 (ad 85) i = _ from c1 i hi, b2 117 (by decide), a2 117 (by decide)]
    · exact Fr_tr (Fr_sub a3 (by decide) (by decide)) (Fr_tr (Fr_sub b3 (by decide) (by decide)) (Fr_tr (Fr_sub c3 (by decide) (by decide)) d3))
  | succ d ih =>
    intro r f M hr hf hc hn
    obtain ⟨f, rfl⟩ : ∃ g, f = g + 1 := ⟨f - 1, by omega⟩
    rw [m_X11_begin_40]
    refine c_f (by rw [show (64 : Int32) = zn 64 from rfl, zn_le (by omega) (by omega)]; omega) (c_rf (s5 hS) (c_ix (by rw [sn2 hS]; exact zn_in (by omega) (by decide)) (c_wI ?_)))
    rw [zn_nat (show r < 2147483648 by omega)]
    refine b_row hA hS h6 (show r < 64 by omega) 64 0 fu _ (by decide) (by decide) (fun p hp => ?_) ?_ (fun M1 a1 a2 a3 a4 => ?_)
    · rw [wI_ne hA (Or.inl (by decide))]; exact hc p hp
    · exact wI_eq
    · have e : ∀ b, b ≠ 82 → mI M1 (ad b) = mI M (ad b) := fun b hb => by rw [a1 b hb, mI_wI, if_neg (ad_ne hA hb)]
      refine c_mono (ih (r + 1) f M1 (by omega) (by omega) (fun p hp => ?_) (fun j hj => ?_)) ?_
      · rw [e 81 (by decide)]; exact hc p hp
      · by_cases g : j = r
        · rw [g]; exact a3
        · rw [a2 j g]
          rw [show mI (wI M (ad (80 + 2)) r 0) (ad 82) j = mI M (ad 82) j from wI_ne hA (Or.inr g)]
          exact hn j (by omega)
      · rintro M2 _ ⟨b1, b2, b3, b4, b5⟩
        refine ⟨b1, b2.trans (e 80 (by decide)), fun i hi => ?_, b4, Fr_tr (Fr_tr (Fr_wI Fr_rf (Bk_in (by decide) (by decide))) a4) b5⟩
        rw [← e 115 (by decide), ← e 116 (by decide), ← e 117 (by decide)]
        exact b3 i hi
theorem m_begin (hA : Inj ad) (hS : SSh G ad 80) (hK : KSh G ad) (hL : LSh G ad 110) {M : mS} (hn : yd_n Y ≤ 6) (hY : YI Y) (hc : ∀ q, q < 4096 → mI M (ad 118) q = zn (yd_c Y q)) (ha : ∀ i, i < yd_n Y → mI M (ad 115) i = zn (an_x (yd_a Y i)) ∧ mI M (ad 116) i = zn (an_y (yd_a Y i)) ∧ mI M (ad 117) i = zn (an_s (yd_a Y i))) : p_cl (m_X11_begin G M (ad 80)) (fun M' _ => mY ad M' 80 Y ∧ Fr (Bk ad 80 92) M M') := by
  unfold m_X11_begin
  refine c_wI (c_wI (c_wI (c_wI ?_)))
  generalize hM0 : wI (wI (wI (wI M (ad 80) 0 0) (ad 80) 1 0) (ad 80) 2 0) (ad 80) 3 0 = M0
  have e0 : ∀ b, b ≠ 80 → mI M0 (ad b) = mI M (ad b) := fun b hb => by
    rw [← hM0, mI_wI, if_neg (ad_ne hA hb), mI_wI, if_neg (ad_ne hA hb), mI_wI, if_neg (ad_ne hA hb), mI_wI, if_neg (ad_ne hA hb)]
  have F0 : Fr (Bk ad 80 92) M M0 := by rw [← hM0]; exact Fr_wI (Fr_wI (Fr_wI (Fr_wI Fr_rf (Bk_in (by omega) (by omega))) (Bk_in (by omega) (by omega))) (Bk_in (by omega) (by omega))) (Bk_in (by omega) (by omega))
  have g0 : mI M0 (ad 80) 0 = 0 ∧ mI M0 (ad 80) 1 = 0 ∧ mI M0 (ad 80) 2 = 0 ∧ mI M0 (ad 80) 3 = 0 := by
    rw [← hM0]
    refine ⟨?_, ?_, ?_, ?_⟩
    · rw [wI_ne hA (Or.inr (by decide)), wI_ne hA (Or.inr (by decide)), wI_ne hA (Or.inr (by decide)), wI_eq]
    · rw [wI_ne hA (Or.inr (by decide)), wI_ne hA (Or.inr (by decide)), wI_eq]
    · rw [wI_ne hA (Or.inr (by decide)), wI_eq]
    · rw [wI_eq]
  clear hM0
  refine c_rf (s15 hS) (c_rf hK (c_rf (l10 hL) (c_rf (s4 hS) (c_clm (m_copy hA (ln8 hL) (sn1 hS) (by decide)) ?_))))
  rintro M1 _ ⟨a1, a2, a3⟩
  refine c_mono (b_rows hA hS hK hL hY.2.1 64 0 fu M1 (by decide) (by decide) (fun p hp => ?_) (fun j hj => absurd hj (Nat.not_lt_zero j))) ?_
  · rw [show mI M1 (ad 81) p = _ from a1 p hp, e0 118 (by decide)]; exact hc p hp
  · rintro M2 _ ⟨b1, b2, b3, b4, b5⟩
    obtain ⟨⟨y1, y2, y3, y4⟩, _, y5⟩ := hY
    have e80 : mI M2 (ad 80) = mI M0 (ad 80) := b2.trans (a2 80 (by decide))
    refine ⟨⟨b1, ?_, fun i hi => ?_⟩, Fr_tr F0 (Fr_tr (Fr_sub a3 (by decide) (by decide)) b5)⟩
    · unfold mYf
      rw [e80, y1, y2, y3, y4]
      exact g0
    · obtain ⟨⟨z1, z2, z3⟩, _⟩ := y5 i hi
      obtain ⟨x1, x2, x3⟩ := ha i hi
      obtain ⟨w1, w2, w3⟩ := b3 i (by omega)
      obtain ⟨v1, v2, v3, v4⟩ := b4 i (by omega)
      refine mA_none z3 ?_ ?_ ?_ ?_ ?_ v3 v4
      · rw [w1, a2 115 (by decide), e0 115 (by decide)]; exact x1
      · rw [w2, a2 116 (by decide), e0 116 (by decide)]; exact x2
      · rw [w3, a2 117 (by decide), e0 117 (by decide)]; exact x3
      · rw [z1]; exact v1
      · rw [z2]; exact v2
end BeginM
