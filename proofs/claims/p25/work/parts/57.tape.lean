/-! the tape: feed, trim -/
theorem and255 (x : Int32) : ∃ n, n < 256 ∧ x &&& 255 = zn n := by
  refine ⟨(x.toBitVec &&& 255#32).toNat, ?_, ?_⟩
  · rw [BitVec.toNat_and]
    exact Nat.lt_of_le_of_lt Nat.and_le_right (by decide)
  · rw [← Int32.toBitVec_inj, Int32.toBitVec_and]
    show x.toBitVec &&& 255#32 = BitVec.ofNat 32 (x.toBitVec &&& 255#32).toNat
    rw [BitVec.ofNat_toNat, BitVec.setWidth_eq]
/-- byte i of four -/
def byS (i : Nat) : Int32 := zn (24 - 8 * i)
def byI (v : Int32) (i : Nat) : Int32 := (v.toUInt32 >>> ((byS i).toUInt32 &&& Int32.toUInt32 31)).toInt32 &&& (255 : Int32)
def byN (v : Int32) (i : Nat) : Nat := (byI v i).toNatClampNeg
theorem byN_ok (v : Int32) (i : Nat) : byN v i < 256 ∧ byI v i = zn (byN v i) := by
  obtain ⟨n, h1, h2⟩ := and255 ((v.toUInt32 >>> ((byS i).toUInt32 &&& Int32.toUInt32 31)).toInt32)
  unfold byN
  rw [show byI v i = zn n from h2, zn_nat (by omega)]
  exact ⟨h1, rfl⟩
theorem bit255 {j : Nat} (h : 8 ≤ j) : (255#32).getLsbD j = false := by
  rw [BitVec.getLsbD_ofNat]
  have : (255 : Nat).testBit j = false := Nat.testBit_lt_two_pow (Nat.lt_of_lt_of_le (by decide : 255 < 2 ^ 8) (Nat.pow_le_pow_right (by decide) h))
  rw [this, Bool.and_false]
theorem sh_same {x : BitVec 32} {s : Nat} (hs : s ≤ 24) : x.sshiftRight s &&& 255#32 = (x >>> s) &&& 255#32 := by
  refine BitVec.eq_of_getLsbD_eq (fun j hj => ?_)
  rw [BitVec.getLsbD_and, BitVec.getLsbD_and]
  by_cases h : 8 ≤ j
  · rw [bit255 h, Bool.and_false, Bool.and_false]
  · rw [BitVec.getLsbD_sshiftRight, BitVec.getLsbD_ushiftRight, if_pos (by omega), decide_eq_false (by omega)]
    rfl
theorem by_same (v : Int32) : ∀ i : Nat, i < 4 → (v >>> (zn (24 - 8 * i) &&& 31)) &&& 255 = byI v i := by
  intro i hi
  have key : ∀ s : Nat, s ≤ 24 → v.toBitVec.sshiftRight s &&& 255#32 = (v.toBitVec >>> s) &&& 255#32 := fun s hs => sh_same hs
  rw [← Int32.toBitVec_inj, Int32.toBitVec_and, Int32.toBitVec_shiftRight, BitVec.sshiftRight_eq']
  match i, hi with
  | 0, _ => exact key 24 (by decide)
  | 1, _ => exact key 16 (by decide)
  | 2, _ => exact key 8 (by decide)
  | 3, _ => exact key 0 (by decide)
/-- the tape with k bytes more -/
def fdA (a b c d e : Int32) (i : Nat) : Int32 := if i = 0 then a else if i = 1 then b else if i = 2 then c else if i = 3 then d else e
def fdT (T : Nat → Nat) (tl : Nat) (g : Nat → Int32) : Nat → Nat := fun k => if k < tl then T k else byN (g ((k - tl) / 4)) ((k - tl) % 4)
theorem fdT_lt {T : Nat → Nat} {tl : Nat} {g : Nat → Int32} (h : ∀ k, k < tl → T k < 256) : ∀ k, fdT T tl g k < 256 := by
  intro k
  unfold fdT
  split
  · next q => exact h k q
  · exact (byN_ok _ _).1
section Tape
variable {G : gS} {ad : Nat → Nat} {M : mS} {Y : aY} {P : aP} {T : Nat → Nat} {tl b : Nat} {ea : Int32}
/-- the class's tape -/
def cT (ad : Nat → Nat) (M : mS) (T : Nat → Nat) (tl : Nat) : Prop := mI M (ad 1) 1 = zn tl ∧ ∀ k, k < tl → mI M (ad 2) k = zn (T k)
theorem CA_T (hc : CA ad M Y P T tl ea) (hn : yd_n Y ≤ 6) {M' : mS} {T' : Nat → Nat} {tl' : Nat} (h : cT ad M' T' tl') (hI : ∀ k, k = 0 ∨ (3 ≤ k ∧ k < 12) ∨ (21 ≤ k ∧ k < 38) → mI M' (ad k) = mI M (ad k)) (hJ : mJ M' (ad 59) = mJ M (ad 59)) : CA ad M' Y P T' tl' ea := by
  obtain ⟨h1, h2, h3, h4, h5, h6⟩ := hc
  refine ⟨cY_keep hn h1 (fun k k1 k2 => hI k (by omega)), cP_keep h2 (fun k k1 k2 => hI k (by omega)), h.1, h.2, by rw [hJ]; exact h5, by rw [hI 0 (by decide)]; exact h6⟩
theorem c_app_loop (hA : Inj ad) (hS : Sh G ad) {v : Int32} {tl0 : Nat} (h4 : tl0 + 4 ≤ 2000) {g : Nat → Nat} (hg : ∀ i, i < 4 → g (tl0 + i) = byN v i) : ∀ (d i f : Nat) (M : mS), i + d = 4 → d < f → cT ad M g (tl0 + i) → p_cl (m_X6_append_12 G (ad 1) v f M (if i = 4 then -8 else byS i)) (fun M' _ => cT ad M' g (tl0 + 4) ∧ Fr (Bk ad 1 3) M M') := by
  intro d
  induction d with
  | zero =>
    intro i f M hi hf hc
    obtain ⟨f, rfl⟩ : ∃ g, f = g + 1 := ⟨f - 1, by omega⟩
    have hi : i = 4 := by omega
    subst hi
    rw [m_X6_append_12]
    exact c_t (by decide) (c_some ⟨hc, Fr_rf⟩)
  | succ d ih =>
    intro i f M hi hf hc
    obtain ⟨f, rfl⟩ : ∃ g, f = g + 1 := ⟨f - 1, by omega⟩
    have n12 : ad 1 ≠ ad 2 := ad_ne hA (by decide)
    have n21 : ad 2 ≠ ad 1 := ad_ne hA (by decide)
    rw [m_X6_append_12, if_neg (show ¬ i = 4 by omega)]
    refine c_f (by unfold byS; exact zn_nn (by omega)) (c_rf (sh_t0 hS) ?_)
    rw [hc.1, sh_tn hS]
    refine c_ix (zn_in (by omega) (by decide)) (c_wI (c_wI (c_bd ?_)))
    rw [zn_nat (by omega)]
    have e8 : byS i + (-8) = if i + 1 = 4 then -8 else byS (i + 1) := by
      rcases (show i = 0 ∨ i = 1 ∨ i = 2 ∨ i = 3 by omega) with rfl | rfl | rfl | rfl <;> decide
    rw [e8, show (v.toUInt32 >>> ((byS i).toUInt32 &&& Int32.toUInt32 31)).toInt32 &&& (255 : Int32) = byI v i from rfl, (byN_ok v i).2]
    have hF : ∀ w : Int32, Fr (Bk ad 1 3) M (wI (wI M (ad 2) (tl0 + i) (zn (byN v i))) (ad 1) 1 w) := fun w => Fr_wI (Fr_wI Fr_rf (Bk_in (by omega) (by omega))) (Bk_in (by omega) (by omega))
    refine c_mono (ih (i + 1) f _ (by omega) (by omega) ⟨?_, fun k hk => ?_⟩) ?_
    · rw [mI_wI, if_pos rfl, upd_at, if_pos rfl, mI_wI, if_neg n12, hc.1, zn_one]
      rfl
    · rw [mI_wI, if_neg n21, mI_wI, if_pos rfl, upd_at]
      by_cases h : k = tl0 + i
      · rw [if_pos h, h, hg i (by omega)]
      · rw [if_neg h]
        exact hc.2 k (by omega)
    · rintro M' _ ⟨q1, q2⟩
      exact ⟨q1, Fr_tr (hF _) q2⟩
theorem c_append (hA : Inj ad) (hS : Sh G ad) {v : Int32} {tl0 : Nat} (h4 : tl0 + 4 ≤ 2000) {g : Nat → Nat} (hg : ∀ i, i < 4 → g (tl0 + i) = byN v i) (hc : cT ad M g tl0) : p_cl (m_X6_append G M (ad 1) v) (fun M' _ => cT ad M' g (tl0 + 4) ∧ Fr (Bk ad 1 3) M M') := by
  unfold m_X6_append m_X6_hasRoom
  rw [hc.1, show zn tl0 + 4 = zn (tl0 + 4) from zn_add tl0 4]
  refine c_cl (c_f (by rw [show (2000 : Int32) = zn 2000 from rfl, zn_lt (by omega) (by omega)]; omega) (c_ck (Or.inr rfl) (c_some (c_f (by decide) ?_))))
  exact c_app_loop hA hS h4 hg 4 0 fu M (by omega) (by unfold fu; omega) hc
theorem c_feed (hA : Inj ad) (hS : Sh G ad) (hn : yd_n Y ≤ 6) (hc : CA ad M Y P T tl ea) (h20 : tl + 20 ≤ 2000) {c1 c2 c3 c4 c5 : Int32} : p_cl (m_X9_feed G M (ad 0) c1 c2 c3 c4 c5) (fun M' r => r = zn (tl + 20) ∧ CA ad M' Y P (fdT T tl (fdA c1 c2 c3 c4 c5)) (tl + 20) ea ∧ Fr (Bk ad 0 66) M M') := by
  have hT0 : cT ad M (fdT T tl (fdA c1 c2 c3 c4 c5)) tl := ⟨hc.2.2.1, fun k hk => by unfold fdT; rw [if_pos hk]; exact hc.2.2.2.1 k hk⟩
  have hb : ∀ (n i : Nat), i < 4 → fdT T tl (fdA c1 c2 c3 c4 c5) (tl + 4 * n + i) = byN (fdA c1 c2 c3 c4 c5 n) i := fun n i hi => by
    unfold fdT
    rw [if_neg (by omega), show (tl + 4 * n + i - tl) / 4 = n by omega, show (tl + 4 * n + i - tl) % 4 = i by omega]
  unfold m_X9_feed
  refine c_rf (sh_x0 hS) ?_
  unfold m_X6_hasRoom
  rw [hc.2.2.1, show zn tl + 20 = zn (tl + 20) from zn_add tl 20]
  refine c_cl (c_f (by rw [show (2000 : Int32) = zn 2000 from rfl, zn_lt (by omega) (by omega)]; omega) (c_ck (Or.inr rfl) (c_some (c_f (by decide) (c_rf (sh_x0 hS) ?_)))))
  refine c_clm (c_append (tl0 := tl + 4 * 0) hA hS (by omega) (fun i hi => hb 0 i hi) hT0) ?_
  rintro M1 _ ⟨g1, f1⟩
  refine c_rf (sh_x0 hS) (c_clm (c_append (tl0 := tl + 4 * 1) hA hS (by omega) (fun i hi => hb 1 i hi) g1) ?_)
  rintro M2 _ ⟨g2, f2⟩
  refine c_rf (sh_x0 hS) (c_clm (c_append (tl0 := tl + 4 * 2) hA hS (by omega) (fun i hi => hb 2 i hi) g2) ?_)
  rintro M3 _ ⟨g3, f3⟩
  refine c_rf (sh_x0 hS) (c_clm (c_append (tl0 := tl + 4 * 3) hA hS (by omega) (fun i hi => hb 3 i hi) g3) ?_)
  rintro M4 _ ⟨g4, f4⟩
  refine c_rf (sh_x0 hS) (c_clm (c_append (tl0 := tl + 4 * 4) hA hS (by omega) (fun i hi => hb 4 i hi) g4) ?_)
  rintro M5 _ ⟨g5, f5⟩
  have hF := Fr_tr f1 (Fr_tr f2 (Fr_tr f3 (Fr_tr f4 f5)))
  exact c_rf (sh_x0 hS) (c_some ⟨g5.1, CA_T hc hn g5 (fun k hk => Fr_I hA hF (by omega)) (Fr_J hA hF (by omega)), Fr_sub hF (by omega) (by omega)⟩)
end Tape
