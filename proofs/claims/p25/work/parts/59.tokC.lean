/-! tokens: the class's scan -/
theorem z64 {n : Nat} (h : n < 2147483648) : Int32.toInt64 (zn n) = Int64.ofNat n := by
  rw [← Int64.toInt_inj, Int32.toInt_toInt64, zn_toInt h, Int64.toInt_ofNat_of_lt (by omega)]
theorem n64_inj {a b : Nat} (ha : a < 9223372036854775808) (hb : b < 9223372036854775808) : Int64.ofNat a = Int64.ofNat b ↔ a = b := by
  constructor
  · intro h
    have := congrArg Int64.toInt h
    rw [Int64.toInt_ofNat_of_lt ha, Int64.toInt_ofNat_of_lt hb] at this
    omega
  · intro h; rw [h]
theorem lg_eq {x y : Int64} : lg_cmp x y = 0 ↔ x = y := by
  constructor
  · intro h
    unfold lg_cmp at h
    by_cases h1 : x > y
    · rw [if_pos h1] at h; exact absurd h (by decide)
    · rw [if_neg h1] at h
      by_cases h2 : x = y
      · exact h2
      · rw [if_neg h2] at h; exact absurd h (by decide)
  · intro h; rw [h]; exact lg_same
def KF (ad : Nat → Nat) (b : Nat) : Prop := b = ad 58 ∨ Bk ad 60 63 b
theorem KF_in {ad : Nat → Nat} {k : Nat} (h1 : 60 ≤ k) (h2 : k < 63) : KF ad (ad k) := Or.inr (Bk_in h1 h2)
theorem KF_out {ad : Nat → Nat} (hA : Inj ad) {k : Nat} (h : k ≠ 58) (h2 : k < 60 ∨ 63 ≤ k) : ¬ KF ad (ad k) := by
  rintro (q | q)
  · exact h (hA _ _ q)
  · exact Bk_out hA h2 q
theorem KF_I {ad : Nat → Nat} (hA : Inj ad) {M M' : mS} (hF : Fr (KF ad) M M') {k : Nat} (h : k ≠ 58) (h2 : k < 60 ∨ 63 ≤ k) : mI M' (ad k) = mI M (ad k) := hF.1 _ (KF_out hA h h2)
theorem KF_J {ad : Nat → Nat} (hA : Inj ad) {M M' : mS} (hF : Fr (KF ad) M M') {k : Nat} (h : k ≠ 58) (h2 : k < 60 ∨ 63 ≤ k) : mJ M' (ad k) = mJ M (ad k) := hF.2 _ (KF_out hA h h2)
def vlT (T : Nat → Nat) (tl j : Nat) : Int64 := if lB (T (tkP T tl j)) then Int64.ofNat (pkN T (tkP T tl j) (lnT T tl j)) else if dB (T (tkP T tl j)) then Int64.ofNat (nuN T (tkP T tl j) (lnT T tl j)) else 0
def cK0 (ad : Nat → Nat) (M : mS) (T : Nat → Nat) (tl i : Nat) : Prop := mI M (ad 58) 5 = zn i ∧ ∀ j, j < i → mI M (ad 60) j = zn (kd0 T tl j) ∧ mI M (ad 61) j = zn (tkP T tl j) ∧ mJ M (ad 62) j = vlT T tl j
/-- all tokens stand in the rows -/
def cK (ad : Nat → Nat) (M : mS) (T : Nat → Nat) (tl : Nat) : Prop := mI M (ad 58) 5 = zn (nT T tl) ∧ (∀ j, j ≤ nT T tl → mI M (ad 60) j = zn (kdT T tl j) ∧ mI M (ad 61) j = zn (tkP T tl j)) ∧ ∀ j, j < nT T tl → mJ M (ad 62) j = vlT T tl j
section Scan
variable {G : gS} {ad : Nat → Nat} {M : mS} {T : Nat → Nat} {tl : Nat}
theorem c_byteAt (hS : Sh G ad) (hc : cT ad M T tl) (htl : tl ≤ 2000) {p : Nat} (hp : p < 2147483648) : m_X6_byteAt G M (ad 1) (zn p) = some (M, if p < tl then zn (T p) else -1) := by
  unfold m_X6_byteAt m_X6_byteAt_21
  rw [if_neg (zn_nn hp), hc.1]
  by_cases h : p < tl
  · rw [if_pos h, if_neg (by rw [zn_le (by omega) hp]; omega), sh_t0 hS]
    unfold o_rf o_ix
    dsimp only
    rw [sh_tn hS, if_neg (show ¬ (zn p < 0 ∨ 2000 ≤ (zn p).toNatClampNeg) from zn_in (by omega) (by decide)), zn_nat hp, hc.2 p h]
  · rw [if_neg h, if_pos (by rw [zn_le (by omega) hp]; omega)]
theorem c_isLetter {b : Nat} (hb : b < 1000) : m_X7_isLetter G M (zn b) = some (M, if lB b then 1 else 0) := by
  refine cl_eq ?_
  unfold m_X7_isLetter m_X7_isLetter_16
  refine c_if (fun g => c_ck (Or.inl rfl) (c_some ⟨rfl, ?_⟩)) (fun g => c_if (fun g2 => c_ck (Or.inl rfl) (c_some ⟨rfl, ?_⟩)) (fun g2 => c_ck (Or.inr rfl) (c_some ⟨rfl, ?_⟩)))
  · rw [show (97 : Int32) = zn 97 from rfl, zn_lt (by omega) (by decide)] at g
    rw [if_neg (by rw [lB_t]; omega)]
  · rw [show (122 : Int32) = zn 122 from rfl, zn_lt (by decide) (by omega)] at g2
    rw [if_neg (by rw [lB_t]; omega)]
  · rw [show (97 : Int32) = zn 97 from rfl, zn_lt (by omega) (by decide)] at g
    rw [show (122 : Int32) = zn 122 from rfl, zn_lt (by decide) (by omega)] at g2
    rw [if_pos (by rw [lB_t]; omega)]
theorem c_isDigit {b : Nat} (hb : b < 1000) : m_X7_isDigit G M (zn b) = some (M, if dB b then 1 else 0) := by
  refine cl_eq ?_
  unfold m_X7_isDigit m_X7_isDigit_16
  refine c_if (fun g => c_ck (Or.inl rfl) (c_some ⟨rfl, ?_⟩)) (fun g => c_if (fun g2 => c_ck (Or.inl rfl) (c_some ⟨rfl, ?_⟩)) (fun g2 => c_ck (Or.inr rfl) (c_some ⟨rfl, ?_⟩)))
  · rw [show (48 : Int32) = zn 48 from rfl, zn_lt (by omega) (by decide)] at g
    rw [if_neg (by rw [dB_t]; omega)]
  · rw [show (57 : Int32) = zn 57 from rfl, zn_lt (by decide) (by omega)] at g2
    rw [if_neg (by rw [dB_t]; omega)]
  · rw [show (48 : Int32) = zn 48 from rfl, zn_lt (by omega) (by decide)] at g
    rw [show (57 : Int32) = zn 57 from rfl, zn_lt (by decide) (by omega)] at g2
    rw [if_pos (by rw [dB_t]; omega)]
theorem c_skip_loop (hS : Sh G ad) (hc : cT ad M T tl) (htl : tl ≤ 2000) (hT : ∀ k, k < tl → T k < 256) {c1 : Int32} : ∀ (d p f : Nat), tl < d + p → d < f → p ≤ 100000 → d ≤ 100000 → m_X6_skipBlanks_2 G (ad 1) c1 f M (zn p) = some (M, zn (skF T tl d p)) := by
  intro d
  induction d with
  | zero =>
    intro p f hd hf hp _
    obtain ⟨f, rfl⟩ : ∃ g, f = g + 1 := ⟨f - 1, by omega⟩
    rw [m_X6_skipBlanks_2, hc.1, if_pos (by rw [zn_le (by omega) (by omega)]; omega)]
    rfl
  | succ d ih =>
    intro p f hd hf hp hdd
    obtain ⟨f, rfl⟩ : ∃ g, f = g + 1 := ⟨f - 1, by omega⟩
    rw [m_X6_skipBlanks_2, hc.1, skF]
    by_cases h : tl ≤ p
    · have hbt : bt T tl p = 999 := by unfold bt; rw [if_neg (by omega)]
      rw [if_pos ((zn_le (by omega) (by omega)).mpr h), hbt]
      rfl
    · rw [if_neg (by rw [zn_le (by omega) (by omega)]; exact h), c_byteAt hS hc htl (by omega), if_pos (by omega)]
      have hb := hT p (by omega)
      have e32 : (zn (T p) = 32) ↔ T p = 32 := zn_inj (b := 32) (by omega) (by decide)
      have e10 : (zn (T p) = 10) ↔ T p = 10 := zn_inj (b := 10) (by omega) (by decide)
      have next := ih (p + 1) f (by omega) (by omega)
      unfold o_cl
      dsimp only
      unfold bt
      rw [if_pos (show p < tl by omega)]
      by_cases h1 : T p = 32
      · rw [if_pos (e32.mpr h1), if_pos (bB_t.mpr (Or.inl h1))]
        unfold m_X6_skipBlanks_30 o_bd
        rw [zn_one]
        by_cases hp2 : p + 1 ≤ 100000
        · exact next hp2 (by omega)
        · omega
      · rw [if_neg (fun q => h1 (e32.mp q)), c_byteAt hS hc htl (by omega), if_pos (by omega)]
        dsimp only
        by_cases h2 : T p = 10
        · rw [if_pos (e10.mpr h2), if_pos (bB_t.mpr (Or.inr h2))]
          unfold m_X6_skipBlanks_30 o_bd
          rw [zn_one]
          exact next (by omega) (by omega)
        · rw [if_neg (fun q => h2 (e10.mp q)), if_neg (fun q => (bB_t.mp q).elim h1 h2)]
          rfl
theorem c_skip (hS : Sh G ad) (hc : cT ad M T tl) (htl : tl ≤ 2000) (hT : ∀ k, k < tl → T k < 256) {p : Nat} (hp : p ≤ tl) : m_X6_skipBlanks G M (ad 1) (zn p) = some (M, zn (sk T tl p)) := by
  unfold m_X6_skipBlanks
  exact c_skip_loop hS hc htl hT 2001 p fu (by omega) (by unfold fu; omega) (by omega) (by omega)
theorem c_addSign {a b : Nat} (hb : lwB b = true) (hb2 : b < 256) : m_X7_addSign G M (Int64.ofNat a) (zn b) = some (M, Int64.ofNat (a * 37 + cv b)) := by
  unfold m_X7_addSign
  rw [c_isDigit (by omega)]
  unfold lwB at hb
  rw [Bool.or_eq_true, lB_t, dB_t] at hb
  have e37 : Int64.ofNat a * 37 = Int64.ofNat (a * 37) := (Int64.ofNat_mul a 37).symm
  unfold o_cl
  dsimp only
  by_cases h : dB b = true
  · rw [if_pos h, if_neg (by decide)]
    rw [dB_t] at h
    unfold m_X7_addSign_28
    rw [e37, show (48 : Int32) = zn 48 from rfl, zn_sub (by omega), show (27 : Int32) = zn 27 from rfl, zn_add, z64 (by omega), ← Int64.ofNat_add]
    unfold cv
    rw [if_neg (by omega), show b - 48 + 27 = b - 21 by omega]
  · rw [if_neg h, if_pos rfl]
    rw [dB_t] at h
    unfold m_X7_addSign_28
    rw [e37, show (97 : Int32) = zn 97 from rfl, zn_sub (by omega), show (1 : Int32) = zn 1 from rfl, zn_add, z64 (by omega), ← Int64.ofNat_add]
    unfold cv
    rw [if_pos (by omega), show b - 97 + 1 = b - 96 by omega]
theorem kwB_lt {w : Nat} (hw : w < 33) : pk (kwB w) < 9223372036854775808 := by
  obtain ⟨h1, h2, h3⟩ := kw_ok w hw
  rw [h1]
  have := pkN_lt (T := fun j => (kwB w).getD j 0) (s := 0) (kwB w).length (fun j hj => by rw [Nat.zero_add]; exact h3 j hj)
  have h4 : 37 ^ (kwB w).length ≤ 37 ^ 8 := Nat.pow_le_pow_right (by decide) h2
  have h5 : (37 : Nat) ^ 8 < 9223372036854775808 := by decide
  omega
theorem c_kw_loop (hS : Sh G ad) (hW : ∀ w, w < 33 → mJ M (ad 59) w = wdJ w) {key : Nat} (hk : key < 9223372036854775808) : ∀ (d w f : Nat), w + d = 33 → d < f → m_X7_kindOfWord_2 G (ad 58) (Int64.ofNat key) f M (zn w) = some (M, zn (kwF key d w)) := by
  intro d
  induction d with
  | zero =>
    intro w f hw hf
    obtain ⟨f, rfl⟩ : ∃ g, f = g + 1 := ⟨f - 1, by omega⟩
    rw [m_X7_kindOfWord_2, if_pos (by rw [show (33 : Int32) = zn 33 from rfl, zn_le (by omega) (by omega)]; omega)]
    rfl
  | succ d ih =>
    intro w f hw hf
    obtain ⟨f, rfl⟩ : ∃ g, f = g + 1 := ⟨f - 1, by omega⟩
    rw [m_X7_kindOfWord_2, if_neg (by rw [show (33 : Int32) = zn 33 from rfl, zn_le (by omega) (by omega)]; omega), sh_k1 hS]
    unfold o_rf o_ix o_bd
    dsimp only
    rw [sh_kn1 hS, if_neg (show ¬ (zn w < 0 ∨ 33 ≤ (zn w).toNatClampNeg) from zn_in (by omega) (by decide)), zn_nat (by omega), hW w (by omega), kwF]
    have e : (lg_cmp (wdJ w) (Int64.ofNat key) = 0) ↔ pk (kwB w) = key := by
      rw [lg_eq]
      exact n64_inj (kwB_lt (by omega)) hk
    by_cases h : pk (kwB w) = key
    · rw [if_pos (e.mpr h), if_pos h, show (200 : Int32) + zn w = zn (200 + w) from zn_add 200 w]
    · rw [if_neg (fun q => h (e.mp q)), if_neg h, zn_one]
      exact ih (w + 1) f (by omega) (by omega)
theorem c_kw (hS : Sh G ad) (hW : ∀ w, w < 33 → mJ M (ad 59) w = wdJ w) {key : Nat} (hk : key < 9223372036854775808) : m_X7_kindOfWord G M (ad 58) (Int64.ofNat key) = some (M, zn (kwK key)) := c_kw_loop hS hW hk 33 0 fu (by omega) (by unfold fu; omega)
theorem c_add (hA : Inj ad) (hS : Sh G ad) {i k s : Nat} {v : Int64} (hi : i < 400) (hc : cK0 ad M T tl i) (hk : k = kd0 T tl i) (hs : s = tkP T tl i) (hv : v = vlT T tl i) : p_cl (m_X7_add G M (ad 58) (zn k) (zn s) v) (fun M' _ => cK0 ad M' T tl (i + 1) ∧ Fr (KF ad) M M') := by
  have n60 : ad 60 ≠ ad 61 := ad_ne hA (by decide)
  have n61 : ad 61 ≠ ad 60 := ad_ne hA (by decide)
  have n58a : ad 58 ≠ ad 60 := ad_ne hA (by decide)
  have n58b : ad 58 ≠ ad 61 := ad_ne hA (by decide)
  have n60c : ad 60 ≠ ad 58 := ad_ne hA (by decide)
  have n61c : ad 61 ≠ ad 58 := ad_ne hA (by decide)
  subst hk hs hv
  unfold m_X7_add
  rw [hc.1]
  refine c_f (by rw [show (400 : Int32) = zn 400 from rfl, zn_le (by omega) (by omega)]; omega) (c_rf (sh_k2 hS) (c_ix (by rw [sh_kn2 hS]; exact zn_in (by omega) (by decide)) (c_wI (c_rf (sh_k3 hS) ?_))))
  rw [mI_wI, if_neg n58a, hc.1]
  refine c_ix (by rw [sh_kn3 hS]; exact zn_in (by omega) (by decide)) (c_wI (c_rf (sh_k4 hS) ?_))
  rw [mI_wI, if_neg n58b, mI_wI, if_neg n58a, hc.1]
  refine c_ix (by rw [sh_kn4 hS]; exact zn_in (by omega) (by decide)) (c_wJ (c_wI (c_some ⟨⟨?_, fun j hj => ?_⟩, ?_⟩)))
  · rw [mI_wI, if_pos rfl, upd_at, if_pos rfl]
    show mI (wI (wI M (ad 60) _ _) (ad 61) _ _) (ad 58) 5 + 1 = _
    rw [mI_wI, if_neg n58b, mI_wI, if_neg n58a, hc.1, zn_one]
  · rw [zn_nat (show i < 2147483648 by omega)]
    have e60 : mI (wI (wJ (wI (wI M (ad 60) i (zn (kd0 T tl i))) (ad 61) i (zn (tkP T tl i))) (ad 62) i (vlT T tl i)) (ad 58) 5 (mI (wJ (wI (wI M (ad 60) i (zn (kd0 T tl i))) (ad 61) i (zn (tkP T tl i))) (ad 62) i (vlT T tl i)) (ad 58) 5 + 1)) (ad 60) = upd (mI M (ad 60)) i (zn (kd0 T tl i)) := by
      rw [mI_wI, if_neg n60c]
      show mI (wI (wI M (ad 60) _ _) (ad 61) _ _) (ad 60) = _
      rw [mI_wI, if_neg n60, mI_wI, if_pos rfl]
    have e61 : mI (wI (wJ (wI (wI M (ad 60) i (zn (kd0 T tl i))) (ad 61) i (zn (tkP T tl i))) (ad 62) i (vlT T tl i)) (ad 58) 5 (mI (wJ (wI (wI M (ad 60) i (zn (kd0 T tl i))) (ad 61) i (zn (tkP T tl i))) (ad 62) i (vlT T tl i)) (ad 58) 5 + 1)) (ad 61) = upd (mI M (ad 61)) i (zn (tkP T tl i)) := by
      rw [mI_wI, if_neg n61c]
      show mI (wI (wI M (ad 60) _ _) (ad 61) _ _) (ad 61) = _
      rw [mI_wI, if_pos rfl, mI_wI, if_neg n61]
    have e62 : mJ (wI (wJ (wI (wI M (ad 60) i (zn (kd0 T tl i))) (ad 61) i (zn (tkP T tl i))) (ad 62) i (vlT T tl i)) (ad 58) 5 (mI (wJ (wI (wI M (ad 60) i (zn (kd0 T tl i))) (ad 61) i (zn (tkP T tl i))) (ad 62) i (vlT T tl i)) (ad 58) 5 + 1)) (ad 62) = vp_updL (mJ M (ad 62)) i (vlT T tl i) := by
      show mJ (wJ (wI (wI M (ad 60) _ _) (ad 61) _ _) (ad 62) _ _) (ad 62) = _
      rw [mJ_wJ, if_pos rfl]
      rfl
    rw [e60, e61, e62, upd_at, upd_at, updL_at]
    by_cases e : j = i
    · rw [if_pos e, if_pos e, if_pos e, e]
      exact ⟨rfl, rfl, rfl⟩
    · rw [if_neg e, if_neg e, if_neg e]
      exact hc.2 j (by omega)
  · exact Fr_wI (Fr_wJ (Fr_wI (Fr_wI Fr_rf (KF_in (by omega) (by omega))) (KF_in (by omega) (by omega))) (KF_in (by omega) (by omega))) (Or.inl rfl)
theorem c_word_loop (hS : Sh G ad) (hc : cT ad M T tl) (htl : tl ≤ 2000) (hT : ∀ k, k < tl → T k < 256) {p : Nat} {c1 : Int32} : ∀ (d k f : Nat), tl < d + (p + k) → d < f → p + k ≤ 2000 + 1 → d ≤ 3000 → m_X7_readWord_5 G (ad 58) c1 f M (Int64.ofNat (pkN T p k)) (zn (p + k)) = m_X7_readWord_67 G (ad 58) c1 M (Int64.ofNat (pkN T p (rnF T tl true d (p + k) - p))) (zn (rnF T tl true d (p + k))) := by
  intro d
  induction d with
  | zero =>
    intro k f hd hf hk _
    obtain ⟨f, rfl⟩ : ∃ g, f = g + 1 := ⟨f - 1, by omega⟩
    rw [m_X7_readWord_5, sh_k0 hS]
    unfold o_rf
    dsimp only
    rw [hc.1, if_pos (by rw [zn_le (by omega) (by omega)]; omega), rnF, Nat.add_sub_cancel_left]
  | succ d ih =>
    intro k f hd hf hk hdd
    obtain ⟨f, rfl⟩ : ∃ g, f = g + 1 := ⟨f - 1, by omega⟩
    rw [m_X7_readWord_5, sh_k0 hS, rnF]
    unfold o_rf
    dsimp only
    rw [hc.1]
    by_cases h : tl ≤ p + k
    · rw [if_pos ((zn_le (by omega) (by omega)).mpr h)]
      have : wB true (bt T tl (p + k)) = false := by unfold bt; rw [if_neg (by omega)]; rfl
      rw [this, if_neg (by decide), Nat.add_sub_cancel_left]
    · have hb := hT (p + k) (by omega)
      have ebt : bt T tl (p + k) = T (p + k) := by unfold bt; rw [if_pos (by omega)]
      rw [if_neg (by rw [zn_le (by omega) (by omega)]; exact h), c_byteAt hS hc htl (by omega), if_pos (by omega), ebt]
      unfold o_cl
      dsimp only
      rw [c_isLetter (by omega)]
      dsimp only
      have next : lwB (T (p + k)) = true → m_X7_readWord_47 G (ad 58) c1 (fun M v2 v4 => m_X7_readWord_5 G (ad 58) c1 f M v2 v4) M (Int64.ofNat (pkN T p k)) (zn (p + k)) = m_X7_readWord_67 G (ad 58) c1 M (Int64.ofNat (pkN T p (rnF T tl true d (p + k + 1) - p))) (zn (rnF T tl true d (p + k + 1))) := by
        intro hl
        unfold m_X7_readWord_47
        rw [sh_k0 hS]
        unfold o_rf
        dsimp only
        rw [c_byteAt hS hc htl (by omega), if_pos (show p + k < tl by omega)]
        unfold o_cl
        dsimp only
        rw [c_addSign hl (by omega)]
        dsimp only
        unfold o_bd
        rw [zn_one]
        exact ih (k + 1) f (by omega) (by omega) (by omega) (by omega)
      by_cases h1 : lB (T (p + k)) = true
      · rw [if_pos h1, if_neg (by decide), if_pos (show wB true (T (p + k)) = true by unfold wB; rw [h1]; simp)]
        exact next (by unfold lwB; rw [h1]; rfl)
      · rw [if_neg h1, if_pos rfl, c_byteAt hS hc htl (by omega), if_pos (show p + k < tl by omega)]
        dsimp only
        rw [c_isDigit (by omega)]
        dsimp only
        by_cases h2 : dB (T (p + k)) = true
        · rw [if_pos h2, if_neg (by decide), if_pos (show wB true (T (p + k)) = true by unfold wB; rw [h2]; rfl)]
          exact next (by unfold lwB; rw [h2]; simp)
        · rw [if_neg h2, if_pos rfl, if_neg (show ¬ wB true (T (p + k)) = true by unfold wB; simp [h1, h2]), Nat.add_sub_cancel_left]
theorem c_num_loop (hS : Sh G ad) (hc : cT ad M T tl) (htl : tl ≤ 2000) (hT : ∀ k, k < tl → T k < 256) {p : Nat} {c1 : Int32} : ∀ (d k f : Nat), tl < d + (p + k) → d < f → p + k ≤ 2000 + 1 → d ≤ 3000 → m_X7_readNumber_5 G (ad 58) c1 f M (Int64.ofNat (nuN T p k)) (zn (p + k)) = m_X7_readNumber_59 G (ad 58) c1 M (Int64.ofNat (nuN T p (rnF T tl false d (p + k) - p))) (zn (rnF T tl false d (p + k))) := by
  intro d
  induction d with
  | zero =>
    intro k f hd hf hk _
    obtain ⟨f, rfl⟩ : ∃ g, f = g + 1 := ⟨f - 1, by omega⟩
    rw [m_X7_readNumber_5, sh_k0 hS]
    unfold o_rf
    dsimp only
    rw [hc.1, if_pos (by rw [zn_le (by omega) (by omega)]; omega), rnF, Nat.add_sub_cancel_left]
  | succ d ih =>
    intro k f hd hf hk hdd
    obtain ⟨f, rfl⟩ : ∃ g, f = g + 1 := ⟨f - 1, by omega⟩
    rw [m_X7_readNumber_5, sh_k0 hS, rnF]
    unfold o_rf
    dsimp only
    rw [hc.1]
    by_cases h : tl ≤ p + k
    · rw [if_pos ((zn_le (by omega) (by omega)).mpr h)]
      have : wB false (bt T tl (p + k)) = false := by unfold bt; rw [if_neg (by omega)]; rfl
      rw [this, if_neg (by decide), Nat.add_sub_cancel_left]
    · have hb := hT (p + k) (by omega)
      have ebt : bt T tl (p + k) = T (p + k) := by unfold bt; rw [if_pos (by omega)]
      rw [if_neg (by rw [zn_le (by omega) (by omega)]; exact h), c_byteAt hS hc htl (by omega), if_pos (by omega), ebt]
      unfold o_cl
      dsimp only
      rw [c_isDigit (by omega)]
      dsimp only
      by_cases h2 : dB (T (p + k)) = true
      · rw [if_pos h2, if_neg (by decide), if_pos (show wB false (T (p + k)) = true by unfold wB; rw [h2]; rfl), c_byteAt hS hc htl (by omega), if_pos (show p + k < tl by omega)]
        dsimp only
        unfold o_bd
        rw [dB_t] at h2
        have e : Int64.ofNat (nuN T p k) * 10 + Int32.toInt64 (zn (T (p + k))) - 48 = Int64.ofNat (nuN T p (k + 1)) := by
          rw [z64 (by omega), show Int64.ofNat (nuN T p k) * 10 = Int64.ofNat (nuN T p k * 10) from (Int64.ofNat_mul _ 10).symm, ← Int64.ofNat_add, nuN]
          have e2 : nuN T p k * 10 + T (p + k) = nuN T p k * 10 + (T (p + k) - 48) + 48 := by omega
          rw [e2, Int64.ofNat_add]
          exact Int64.add_sub_cancel _ _
        rw [e, zn_one]
        exact ih (k + 1) f (by omega) (by omega) (by omega) (by omega)
      · rw [if_neg h2, if_pos rfl, if_neg (show ¬ wB false (T (p + k)) = true by unfold wB; simp [h2]), Nat.add_sub_cancel_left]
theorem sB_t {b : Nat} : sB_ b = true ↔ b = 40 ∨ b = 41 ∨ b = 91 ∨ b = 93 ∨ b = 59 ∨ b = 44 ∨ b = 43 ∨ b = 45 ∨ b = 42 ∨ b = 47 ∨ b = 60 ∨ b = 62 ∨ b = 61 := by
  unfold sB_
  simp only [Bool.or_eq_true, beq_iff_eq, or_assoc]
/-- what is read of a symbol, or of nothing -/
theorem c_symbol (hA : Inj ad) (hS : Sh G ad) (hc : cT ad M T tl) (htl : tl ≤ 2000) (hT : ∀ k, k < tl → T k < 256) {i : Nat} (hi : i < 400) (hk : cK0 ad M T tl i) (hp : tkP T tl i < tl) (hl : ¬ lB (T (tkP T tl i)) = true) (hd : ¬ dB (T (tkP T tl i)) = true) : p_cl (m_X7_readSymbol G M (ad 58) (zn (tkP T tl i)) (zn (T (tkP T tl i)))) (fun M' r => r = zn (tkE T tl (tkP T tl i)).2 ∧ (2 ≤ kd0 T tl i → cK0 ad M' T tl (i + 1)) ∧ (kd0 T tl i ≤ 1 → M' = M ∧ (tkE T tl (tkP T tl i)).2 = tkP T tl i) ∧ Fr (KF ad) M M') := by
  have hb := hT _ hp
  have hv : (0 : Int64) = vlT T tl i := by unfold vlT; rw [if_neg hl, if_neg hd]
  have ek : kd0 T tl i = if (T (tkP T tl i) = 60 ∨ T (tkP T tl i) = 62) ∧ bt T tl (tkP T tl i + 1) = 61 then (if T (tkP T tl i) = 60 then 128 else 129) else if sB_ (T (tkP T tl i)) then T (tkP T tl i) else 1 := by
    unfold kd0 tkE
    rw [if_neg (by omega), if_neg hl, if_neg hd]
    split
    · rfl
    · split <;> rfl
  have ee : (tkE T tl (tkP T tl i)).2 = if (T (tkP T tl i) = 60 ∨ T (tkP T tl i) = 62) ∧ bt T tl (tkP T tl i + 1) = 61 then tkP T tl i + 2 else if sB_ (T (tkP T tl i)) then tkP T tl i + 1 else tkP T tl i := by
    unfold tkE
    rw [if_neg (by omega), if_neg hl, if_neg hd]
    split
    · rfl
    · split <;> rfl
  have one : sB_ (T (tkP T tl i)) = true → ¬ ((T (tkP T tl i) = 60 ∨ T (tkP T tl i) = 62) ∧ bt T tl (tkP T tl i + 1) = 61) → p_cl (o_cl (m_X7_add G M (ad 58) (zn (T (tkP T tl i))) (zn (tkP T tl i)) (0 : Int64)) (fun M2 r3 => some (M2, (zn (tkP T tl i) + (1 : Int32))))) (fun M' r => r = zn (tkE T tl (tkP T tl i)).2 ∧ (2 ≤ kd0 T tl i → cK0 ad M' T tl (i + 1)) ∧ (kd0 T tl i ≤ 1 → M' = M ∧ (tkE T tl (tkP T tl i)).2 = tkP T tl i) ∧ Fr (KF ad) M M') := by
    intro h1 h2
    rw [if_neg h2, if_pos h1] at ek ee
    refine c_clm (c_add hA hS hi hk ek.symm rfl hv) ?_
    rintro M2 _ ⟨g1, g2⟩
    have hge : 2 ≤ T (tkP T tl i) := by rw [sB_t] at h1; omega
    exact c_some ⟨by rw [ee, zn_one], fun _ => g1, fun q => by omega, g2⟩
  have two : (T (tkP T tl i) = 60 ∨ T (tkP T tl i) = 62) → p_cl (o_rf (gP G (ad 58) 0) (fun q46 => o_cl (m_X6_byteAt G M q46 (zn (tkP T tl i) + (1 : Int32))) (fun M47 r48 => (if r48 = (61 : Int32) then (if zn (T (tkP T tl i)) = (60 : Int32) then m_X7_readSymbol_263 G (ad 58) (zn (tkP T tl i)) (zn (T (tkP T tl i))) M47 ((128 : Int32)) else m_X7_readSymbol_263 G (ad 58) (zn (tkP T tl i)) (zn (T (tkP T tl i))) M47 ((129 : Int32))) else o_cl (m_X7_add G M47 (ad 58) (zn (T (tkP T tl i))) (zn (tkP T tl i)) (0 : Int64)) (fun M51 r52 => some (M51, (zn (tkP T tl i) + (1 : Int32)))))))) (fun M' r => r = zn (tkE T tl (tkP T tl i)).2 ∧ (2 ≤ kd0 T tl i → cK0 ad M' T tl (i + 1)) ∧ (kd0 T tl i ≤ 1 → M' = M ∧ (tkE T tl (tkP T tl i)).2 = tkP T tl i) ∧ Fr (KF ad) M M') := by
    intro h1
    have hs : sB_ (T (tkP T tl i)) = true := by rw [sB_t]; omega
    refine c_rf (sh_k0 hS) ?_
    rw [zn_one, c_byteAt hS hc htl (by omega)]
    refine c_cl (c_some ?_)
    by_cases h2 : bt T tl (tkP T tl i + 1) = 61
    · have h3 : tkP T tl i + 1 < tl := by
        by_cases e : tkP T tl i + 1 < tl
        · exact e
        · unfold bt at h2
          rw [if_neg e] at h2
          exact absurd h2 (by decide)
      unfold bt at h2
      rw [if_pos h3] at h2
      rw [if_pos h3, h2]
      have hcond : (T (tkP T tl i) = 60 ∨ T (tkP T tl i) = 62) ∧ bt T tl (tkP T tl i + 1) = 61 := ⟨h1, by unfold bt; rw [if_pos h3]; exact h2⟩
      rw [if_pos hcond] at ek ee
      have e60 : (zn (T (tkP T tl i)) = 60) ↔ T (tkP T tl i) = 60 := zn_inj (b := 60) (by omega) (by decide)
      have fin : ∀ k : Nat, k = kd0 T tl i → 2 ≤ k → p_cl (m_X7_readSymbol_263 G (ad 58) (zn (tkP T tl i)) (zn (T (tkP T tl i))) M (zn k)) (fun M' r => r = zn (tkE T tl (tkP T tl i)).2 ∧ (2 ≤ kd0 T tl i → cK0 ad M' T tl (i + 1)) ∧ (kd0 T tl i ≤ 1 → M' = M ∧ (tkE T tl (tkP T tl i)).2 = tkP T tl i) ∧ Fr (KF ad) M M') := by
        intro k hk2 hk3
        unfold m_X7_readSymbol_263
        refine c_clm (c_add hA hS hi hk hk2 rfl hv) ?_
        rintro M2 _ ⟨g1, g2⟩
        exact c_some ⟨by rw [ee]; exact zn_add _ 2, fun _ => g1, fun q => by omega, g2⟩
      refine c_t rfl (c_if (fun q => ?_) (fun q => ?_))
      · exact fin 128 (by rw [ek, if_pos (e60.mp q)]) (by decide)
      · exact fin 129 (by rw [ek, if_neg (fun h => q (e60.mpr h))]) (by decide)
    · have h3 : (if tkP T tl i + 1 < tl then zn (T (tkP T tl i + 1)) else (-1 : Int32)) ≠ 61 := by
        unfold bt at h2
        by_cases e : tkP T tl i + 1 < tl
        · rw [if_pos e] at h2 ⊢
          have := hT _ e
          intro q
          rw [show (61 : Int32) = zn 61 from rfl, zn_inj (by omega) (by decide)] at q
          exact h2 q
        · rw [if_neg e]
          decide
      have h9 := one hs (fun h => h2 h.2)
      rw [zn_one] at h9
      exact c_f h3 h9
  by_cases hs : sB_ (T (tkP T tl i)) = true
  · unfold m_X7_readSymbol
    have hsc := sB_t.mp hs
    have e : ∀ k : Nat, k < 256 → ((zn (T (tkP T tl i)) = zn k) ↔ T (tkP T tl i) = k) := fun k hk => zn_inj (by omega) (by omega)
    refine c_if (fun g => one hs (fun h => by have := (e 40 (by decide)).mp g; omega)) (fun g40 => ?_)
    refine c_if (fun g => one hs (fun h => by have := (e 41 (by decide)).mp g; omega)) (fun g41 => ?_)
    refine c_if (fun g => one hs (fun h => by have := (e 42 (by decide)).mp g; omega)) (fun g42 => ?_)
    refine c_if (fun g => one hs (fun h => by have := (e 43 (by decide)).mp g; omega)) (fun g43 => ?_)
    refine c_if (fun g => one hs (fun h => by have := (e 44 (by decide)).mp g; omega)) (fun g44 => ?_)
    refine c_if (fun g => one hs (fun h => by have := (e 45 (by decide)).mp g; omega)) (fun g45 => ?_)
    refine c_f (fun g => by have := (e 46 (by decide)).mp g; omega) ?_
    refine c_if (fun g => one hs (fun h => by have := (e 47 (by decide)).mp g; omega)) (fun g47 => ?_)
    refine c_f (fun g => by have := (e 48 (by decide)).mp g; omega) ?_
    refine c_f (fun g => by have := (e 49 (by decide)).mp g; omega) ?_
    refine c_f (fun g => by have := (e 50 (by decide)).mp g; omega) ?_
    refine c_f (fun g => by have := (e 51 (by decide)).mp g; omega) ?_
    refine c_f (fun g => by have := (e 52 (by decide)).mp g; omega) ?_
    refine c_f (fun g => by have := (e 53 (by decide)).mp g; omega) ?_
    refine c_f (fun g => by have := (e 54 (by decide)).mp g; omega) ?_
    refine c_f (fun g => by have := (e 55 (by decide)).mp g; omega) ?_
    refine c_f (fun g => by have := (e 56 (by decide)).mp g; omega) ?_
    refine c_f (fun g => by have := (e 57 (by decide)).mp g; omega) ?_
    refine c_f (fun g => by have := (e 58 (by decide)).mp g; omega) ?_
    refine c_if (fun g => one hs (fun h => by have := (e 59 (by decide)).mp g; omega)) (fun g59 => ?_)
    refine c_if (fun g => two (Or.inl ((e 60 (by decide)).mp g))) (fun g60 => ?_)
    refine c_if (fun g => one hs (fun h => by have := (e 61 (by decide)).mp g; omega)) (fun g61 => ?_)
    refine c_if (fun g => two (Or.inr ((e 62 (by decide)).mp g))) (fun g62 => ?_)
    refine c_f (fun g => by have := (e 63 (by decide)).mp g; omega) ?_
    refine c_f (fun g => by have := (e 64 (by decide)).mp g; omega) ?_
    refine c_f (fun g => by have := (e 65 (by decide)).mp g; omega) ?_
    refine c_f (fun g => by have := (e 66 (by decide)).mp g; omega) ?_
    refine c_f (fun g => by have := (e 67 (by decide)).mp g; omega) ?_
    refine c_f (fun g => by have := (e 68 (by decide)).mp g; omega) ?_
    refine c_f (fun g => by have := (e 69 (by decide)).mp g; omega) ?_
    refine c_f (fun g => by have := (e 70 (by decide)).mp g; omega) ?_
    refine c_f (fun g => by have := (e 71 (by decide)).mp g; omega) ?_
    refine c_f (fun g => by have := (e 72 (by decide)).mp g; omega) ?_
    refine c_f (fun g => by have := (e 73 (by decide)).mp g; omega) ?_
    refine c_f (fun g => by have := (e 74 (by decide)).mp g; omega) ?_
    refine c_f (fun g => by have := (e 75 (by decide)).mp g; omega) ?_
    refine c_f (fun g => by have := (e 76 (by decide)).mp g; omega) ?_
    refine c_f (fun g => by have := (e 77 (by decide)).mp g; omega) ?_
    refine c_f (fun g => by have := (e 78 (by decide)).mp g; omega) ?_
    refine c_f (fun g => by have := (e 79 (by decide)).mp g; omega) ?_
    refine c_f (fun g => by have := (e 80 (by decide)).mp g; omega) ?_
    refine c_f (fun g => by have := (e 81 (by decide)).mp g; omega) ?_
    refine c_f (fun g => by have := (e 82 (by decide)).mp g; omega) ?_
    refine c_f (fun g => by have := (e 83 (by decide)).mp g; omega) ?_
    refine c_f (fun g => by have := (e 84 (by decide)).mp g; omega) ?_
    refine c_f (fun g => by have := (e 85 (by decide)).mp g; omega) ?_
    refine c_f (fun g => by have := (e 86 (by decide)).mp g; omega) ?_
    refine c_f (fun g => by have := (e 87 (by decide)).mp g; omega) ?_
    refine c_f (fun g => by have := (e 88 (by decide)).mp g; omega) ?_
    refine c_f (fun g => by have := (e 89 (by decide)).mp g; omega) ?_
    refine c_f (fun g => by have := (e 90 (by decide)).mp g; omega) ?_
    refine c_if (fun g => one hs (fun h => by have := (e 91 (by decide)).mp g; omega)) (fun g91 => ?_)
    refine c_f (fun g => by have := (e 92 (by decide)).mp g; omega) ?_
    refine c_if (fun g => one hs (fun h => by have := (e 93 (by decide)).mp g; omega)) (fun g93 => ?_)
    exfalso
    rcases hsc with h | h | h | h | h | h | h | h | h | h | h | h | h
    · exact g40 ((e 40 (by decide)).mpr h)
    · exact g41 ((e 41 (by decide)).mpr h)
    · exact g91 ((e 91 (by decide)).mpr h)
    · exact g93 ((e 93 (by decide)).mpr h)
    · exact g59 ((e 59 (by decide)).mpr h)
    · exact g44 ((e 44 (by decide)).mpr h)
    · exact g43 ((e 43 (by decide)).mpr h)
    · exact g45 ((e 45 (by decide)).mpr h)
    · exact g42 ((e 42 (by decide)).mpr h)
    · exact g47 ((e 47 (by decide)).mpr h)
    · exact g60 ((e 60 (by decide)).mpr h)
    · exact g62 ((e 62 (by decide)).mpr h)
    · exact g61 ((e 61 (by decide)).mpr h)
  · unfold m_X7_readSymbol
    have hsc : ¬ (T (tkP T tl i) = 40 ∨ T (tkP T tl i) = 41 ∨ T (tkP T tl i) = 91 ∨ T (tkP T tl i) = 93 ∨ T (tkP T tl i) = 59 ∨ T (tkP T tl i) = 44 ∨ T (tkP T tl i) = 43 ∨ T (tkP T tl i) = 45 ∨ T (tkP T tl i) = 42 ∨ T (tkP T tl i) = 47 ∨ T (tkP T tl i) = 60 ∨ T (tkP T tl i) = 62 ∨ T (tkP T tl i) = 61) := fun h => hs (sB_t.mpr h)
    have e : ∀ k : Nat, k < 256 → ((zn (T (tkP T tl i)) = zn k) ↔ T (tkP T tl i) = k) := fun k hk => zn_inj (by omega) (by omega)
    have hn : ¬ ((T (tkP T tl i) = 60 ∨ T (tkP T tl i) = 62) ∧ bt T tl (tkP T tl i + 1) = 61) := fun h => by omega
    rw [if_neg hn, if_neg hs] at ek ee
    have fin : zn (tkP T tl i) = zn (tkE T tl (tkP T tl i)).2 ∧ (2 ≤ kd0 T tl i → cK0 ad M T tl (i + 1)) ∧ (kd0 T tl i ≤ 1 → M = M ∧ (tkE T tl (tkP T tl i)).2 = tkP T tl i) ∧ Fr (KF ad) M M := ⟨by rw [ee], fun q => by omega, fun _ => ⟨rfl, ee⟩, Fr_rf⟩
    refine c_f (fun g => by have := (e 40 (by decide)).mp g; omega) ?_
    refine c_f (fun g => by have := (e 41 (by decide)).mp g; omega) ?_
    refine c_f (fun g => by have := (e 42 (by decide)).mp g; omega) ?_
    refine c_f (fun g => by have := (e 43 (by decide)).mp g; omega) ?_
    refine c_f (fun g => by have := (e 44 (by decide)).mp g; omega) ?_
    refine c_f (fun g => by have := (e 45 (by decide)).mp g; omega) ?_
    refine c_if (fun _ => c_some fin) (fun _ => ?_)
    refine c_f (fun g => by have := (e 47 (by decide)).mp g; omega) ?_
    refine c_if (fun _ => c_some fin) (fun _ => ?_)
    refine c_if (fun _ => c_some fin) (fun _ => ?_)
    refine c_if (fun _ => c_some fin) (fun _ => ?_)
    refine c_if (fun _ => c_some fin) (fun _ => ?_)
    refine c_if (fun _ => c_some fin) (fun _ => ?_)
    refine c_if (fun _ => c_some fin) (fun _ => ?_)
    refine c_if (fun _ => c_some fin) (fun _ => ?_)
    refine c_if (fun _ => c_some fin) (fun _ => ?_)
    refine c_if (fun _ => c_some fin) (fun _ => ?_)
    refine c_if (fun _ => c_some fin) (fun _ => ?_)
    refine c_if (fun _ => c_some fin) (fun _ => ?_)
    refine c_f (fun g => by have := (e 59 (by decide)).mp g; omega) ?_
    refine c_f (fun g => by have := (e 60 (by decide)).mp g; omega) ?_
    refine c_f (fun g => by have := (e 61 (by decide)).mp g; omega) ?_
    refine c_f (fun g => by have := (e 62 (by decide)).mp g; omega) ?_
    refine c_if (fun _ => c_some fin) (fun _ => ?_)
    refine c_if (fun _ => c_some fin) (fun _ => ?_)
    refine c_if (fun _ => c_some fin) (fun _ => ?_)
    refine c_if (fun _ => c_some fin) (fun _ => ?_)
    refine c_if (fun _ => c_some fin) (fun _ => ?_)
    refine c_if (fun _ => c_some fin) (fun _ => ?_)
    refine c_if (fun _ => c_some fin) (fun _ => ?_)
    refine c_if (fun _ => c_some fin) (fun _ => ?_)
    refine c_if (fun _ => c_some fin) (fun _ => ?_)
    refine c_if (fun _ => c_some fin) (fun _ => ?_)
    refine c_if (fun _ => c_some fin) (fun _ => ?_)
    refine c_if (fun _ => c_some fin) (fun _ => ?_)
    refine c_if (fun _ => c_some fin) (fun _ => ?_)
    refine c_if (fun _ => c_some fin) (fun _ => ?_)
    refine c_if (fun _ => c_some fin) (fun _ => ?_)
    refine c_if (fun _ => c_some fin) (fun _ => ?_)
    refine c_if (fun _ => c_some fin) (fun _ => ?_)
    refine c_if (fun _ => c_some fin) (fun _ => ?_)
    refine c_if (fun _ => c_some fin) (fun _ => ?_)
    refine c_if (fun _ => c_some fin) (fun _ => ?_)
    refine c_if (fun _ => c_some fin) (fun _ => ?_)
    refine c_if (fun _ => c_some fin) (fun _ => ?_)
    refine c_if (fun _ => c_some fin) (fun _ => ?_)
    refine c_if (fun _ => c_some fin) (fun _ => ?_)
    refine c_if (fun _ => c_some fin) (fun _ => ?_)
    refine c_if (fun _ => c_some fin) (fun _ => ?_)
    refine c_if (fun _ => c_some fin) (fun _ => ?_)
    refine c_if (fun _ => c_some fin) (fun _ => ?_)
    refine c_f (fun g => by have := (e 91 (by decide)).mp g; omega) ?_
    refine c_if (fun _ => c_some fin) (fun _ => ?_)
    refine c_f (fun g => by have := (e 93 (by decide)).mp g; omega) ?_
    exact c_some fin
theorem lw_all {p : Nat} (h : lB (T p) = true) (hp : p < tl) (hT : ∀ k, k < tl → T k < 256) : ∀ j, j < rnE T tl true p - p → lwB (T (p + j)) = true := by
  intro j hj
  have r := rnF_ge (T := T) (tl := tl) (w := true) 2001 (p + 1)
  have hle := r.2.1 (by omega)
  unfold rnE at hj
  by_cases e : j = 0
  · rw [e, Nat.add_zero]
    unfold lwB
    rw [h]
    rfl
  · have := r.2.2 (p + j) (by omega) (by omega)
    unfold bt at this
    rw [if_pos (by omega)] at this
    unfold wB at this
    unfold lwB
    rw [Bool.or_comm]
    simpa using this
theorem c_readToken (hA : Inj ad) (hS : Sh G ad) (hc : cT ad M T tl) (htl : tl ≤ 2000) (hT : ∀ k, k < tl → T k < 256) (hW : ∀ w, w < 33 → mJ M (ad 59) w = wdJ w) {i : Nat} (hi : i < 400) (hle : tkP T tl i ≤ tl) (hk : cK0 ad M T tl i) : p_cl (m_X7_readToken G M (ad 58) (zn (tkP T tl i))) (fun M' r => r = zn (tkE T tl (tkP T tl i)).2 ∧ (2 ≤ kd0 T tl i → cK0 ad M' T tl (i + 1)) ∧ (kd0 T tl i ≤ 1 → M' = M ∧ (tkE T tl (tkP T tl i)).2 = tkP T tl i) ∧ Fr (KF ad) M M') := by
  unfold m_X7_readToken
  refine c_rf (sh_k0 hS) ?_
  rw [c_byteAt hS hc htl (by omega)]
  refine c_cl (c_some ?_)
  by_cases hp : tkP T tl i < tl
  · have hb := hT _ hp
    rw [if_pos hp, c_isLetter (by omega)]
    refine c_cl (c_some ?_)
    have r1 := rnF_ge (T := T) (tl := tl) (w := true) 2001 (tkP T tl i + 1)
    have r2 := rnF_ge (T := T) (tl := tl) (w := false) 2001 (tkP T tl i + 1)
    have l1 := r1.2.1 (by omega)
    have l2 := r2.2.1 (by omega)
    by_cases h1 : lB (T (tkP T tl i)) = true
    · rw [if_pos h1]
      refine c_f (by decide) ?_
      unfold m_X7_readWord
      have ew := c_word_loop (c1 := zn (tkP T tl i)) (p := tkP T tl i) hS hc htl hT 2002 0 fu (by omega) (by unfold fu; omega) (by omega) (by omega)
      rw [Nat.add_zero, rnF, show bt T tl (tkP T tl i) = T (tkP T tl i) by unfold bt; rw [if_pos hp], if_pos (show wB true (T (tkP T tl i)) = true by unfold wB; rw [h1]; simp)] at ew
      rw [show (0 : Int64) = Int64.ofNat (pkN T (tkP T tl i) 0) from rfl, ew]
      have eE : (tkE T tl (tkP T tl i)) = if rnE T tl true (tkP T tl i) - tkP T tl i ≤ 10 then (kwK (pkN T (tkP T tl i) (rnE T tl true (tkP T tl i) - tkP T tl i)), rnE T tl true (tkP T tl i)) else (1, tkP T tl i) := by
        unfold tkE
        rw [if_neg (by omega), if_pos h1]
      unfold m_X7_readWord_67
      rw [show rnF T tl true 2001 (tkP T tl i + 1) = rnE T tl true (tkP T tl i) from rfl] at l1 r1 ⊢
      have e10 : (zn (rnE T tl true (tkP T tl i)) - zn (tkP T tl i) ≤ 10) ↔ rnE T tl true (tkP T tl i) - tkP T tl i ≤ 10 := by
        rw [zn_sub (by omega), show (10 : Int32) = zn 10 from rfl, zn_le (by omega) (by decide)]
      refine c_cl (c_if (fun g => ?_) (fun g => ?_))
      · have g2 := e10.mp g
        rw [if_pos g2] at eE
        have hk37 := pkN_lt (T := T) (s := tkP T tl i) _ (lw_all h1 hp hT)
        have h37 : 37 ^ (rnE T tl true (tkP T tl i) - tkP T tl i) ≤ 37 ^ 10 := Nat.pow_le_pow_right (by decide) g2
        have h5 : (37 : Nat) ^ 10 < 9223372036854775808 := by decide
        rw [c_kw hS hW (by omega)]
        have hkd : kwK (pkN T (tkP T tl i) (rnE T tl true (tkP T tl i) - tkP T tl i)) = kd0 T tl i := by unfold kd0; rw [eE]
        have hvl : Int64.ofNat (pkN T (tkP T tl i) (rnE T tl true (tkP T tl i) - tkP T tl i)) = vlT T tl i := by
          unfold vlT lnT
          rw [if_pos h1, eE]
        refine c_cl (c_some (c_clm (c_add hA hS hi hk hkd rfl hvl) ?_))
        rintro M2 _ ⟨g3, g4⟩
        have hge : 2 ≤ kd0 T tl i := by
          rw [← hkd]
          unfold kwK
          rcases kwF_ge (key := pkN T (tkP T tl i) (rnE T tl true (tkP T tl i) - tkP T tl i)) 33 0 with q | q <;> omega
        exact c_some (c_some ⟨by rw [eE], fun _ => g3, fun q => by omega, g4⟩)
      · rw [if_neg (fun h => g (e10.mpr h))] at eE
        have hkd : kd0 T tl i = 1 := by unfold kd0; rw [eE]
        exact c_some (c_some ⟨by rw [eE], fun q => by omega, fun _ => ⟨rfl, by rw [eE]⟩, Fr_rf⟩)
    · rw [if_neg h1]
      refine c_t rfl ?_
      rw [c_isDigit (by omega)]
      refine c_cl (c_some ?_)
      by_cases h2 : dB (T (tkP T tl i)) = true
      · rw [if_pos h2]
        refine c_f (by decide) ?_
        unfold m_X7_readNumber
        have ew := c_num_loop (c1 := zn (tkP T tl i)) (p := tkP T tl i) hS hc htl hT 2002 0 fu (by omega) (by unfold fu; omega) (by omega) (by omega)
        rw [Nat.add_zero, rnF, show bt T tl (tkP T tl i) = T (tkP T tl i) by unfold bt; rw [if_pos hp], if_pos (show wB false (T (tkP T tl i)) = true by unfold wB; rw [h2]; rfl)] at ew
        rw [show (0 : Int64) = Int64.ofNat (nuN T (tkP T tl i) 0) from rfl, ew]
        have eE : (tkE T tl (tkP T tl i)) = if rnE T tl false (tkP T tl i) - tkP T tl i ≤ 6 then (3, rnE T tl false (tkP T tl i)) else (1, tkP T tl i) := by
          unfold tkE
          rw [if_neg (by omega), if_neg h1, if_pos h2]
        unfold m_X7_readNumber_59
        rw [show rnF T tl false 2001 (tkP T tl i + 1) = rnE T tl false (tkP T tl i) from rfl] at l2 r2 ⊢
        have e6 : (zn (rnE T tl false (tkP T tl i)) - zn (tkP T tl i) ≤ 6) ↔ rnE T tl false (tkP T tl i) - tkP T tl i ≤ 6 := by
          rw [zn_sub (by omega), show (6 : Int32) = zn 6 from rfl, zn_le (by omega) (by decide)]
        refine c_cl (c_if (fun g => ?_) (fun g => ?_))
        · have g2 := e6.mp g
          rw [if_pos g2] at eE
          have hkd : 3 = kd0 T tl i := by unfold kd0; rw [eE]
          have hvl : Int64.ofNat (nuN T (tkP T tl i) (rnE T tl false (tkP T tl i) - tkP T tl i)) = vlT T tl i := by
            unfold vlT lnT
            rw [if_neg h1, if_pos h2, eE]
          refine c_clm (c_add (k := 3) hA hS hi hk hkd rfl hvl) ?_
          rintro M2 _ ⟨g3, g4⟩
          exact c_some (c_some ⟨by rw [eE], fun _ => g3, fun q => by omega, g4⟩)
        · rw [if_neg (fun h => g (e6.mpr h))] at eE
          have hkd : kd0 T tl i = 1 := by unfold kd0; rw [eE]
          exact c_some (c_some ⟨by rw [eE], fun q => by omega, fun _ => ⟨rfl, by rw [eE]⟩, Fr_rf⟩)
      · rw [if_neg h2]
        refine c_t rfl (c_clm (c_symbol hA hS hc htl hT hi hk hp h1 h2) ?_)
        rintro M2 r h
        exact c_some h
  · rw [if_neg hp]
    have eE : tkE T tl (tkP T tl i) = (0, tkP T tl i) := by unfold tkE; rw [if_pos (by omega)]
    have hkd : kd0 T tl i = 0 := by unfold kd0; rw [eE]
    have fin : zn (tkP T tl i) = zn (tkE T tl (tkP T tl i)).2 ∧ (2 ≤ kd0 T tl i → cK0 ad M T tl (i + 1)) ∧ (kd0 T tl i ≤ 1 → M = M ∧ (tkE T tl (tkP T tl i)).2 = tkP T tl i) ∧ Fr (KF ad) M M := ⟨by rw [eE], fun q => by omega, fun _ => ⟨rfl, by rw [eE]⟩, Fr_rf⟩
    unfold m_X7_isLetter m_X7_isLetter_16
    refine c_cl (c_t (by decide) (c_ck (Or.inl rfl) (c_some (c_t rfl ?_))))
    unfold m_X7_isDigit m_X7_isDigit_16
    refine c_cl (c_t (by decide) (c_ck (Or.inl rfl) (c_some (c_t rfl ?_))))
    unfold m_X7_readSymbol
    refine c_cl ?_
    refine c_f (by decide) ?_
    refine c_f (by decide) ?_
    refine c_f (by decide) ?_
    refine c_f (by decide) ?_
    refine c_f (by decide) ?_
    refine c_f (by decide) ?_
    refine c_f (by decide) ?_
    refine c_f (by decide) ?_
    refine c_f (by decide) ?_
    refine c_f (by decide) ?_
    refine c_f (by decide) ?_
    refine c_f (by decide) ?_
    refine c_f (by decide) ?_
    refine c_f (by decide) ?_
    refine c_f (by decide) ?_
    refine c_f (by decide) ?_
    refine c_f (by decide) ?_
    refine c_f (by decide) ?_
    refine c_f (by decide) ?_
    refine c_f (by decide) ?_
    refine c_f (by decide) ?_
    refine c_f (by decide) ?_
    refine c_f (by decide) ?_
    refine c_f (by decide) ?_
    refine c_f (by decide) ?_
    refine c_f (by decide) ?_
    refine c_f (by decide) ?_
    refine c_f (by decide) ?_
    refine c_f (by decide) ?_
    refine c_f (by decide) ?_
    refine c_f (by decide) ?_
    refine c_f (by decide) ?_
    refine c_f (by decide) ?_
    refine c_f (by decide) ?_
    refine c_f (by decide) ?_
    refine c_f (by decide) ?_
    refine c_f (by decide) ?_
    refine c_f (by decide) ?_
    refine c_f (by decide) ?_
    refine c_f (by decide) ?_
    refine c_f (by decide) ?_
    refine c_f (by decide) ?_
    refine c_f (by decide) ?_
    refine c_f (by decide) ?_
    refine c_f (by decide) ?_
    refine c_f (by decide) ?_
    refine c_f (by decide) ?_
    refine c_f (by decide) ?_
    refine c_f (by decide) ?_
    refine c_f (by decide) ?_
    refine c_f (by decide) ?_
    refine c_f (by decide) ?_
    refine c_f (by decide) ?_
    refine c_f (by decide) ?_
    exact c_some (c_some fin)
theorem cT_KF (hA : Inj ad) {M' : mS} (h : cT ad M T tl) (hF : Fr (KF ad) M M') : cT ad M' T tl := by
  unfold cT
  rw [KF_I hA hF (k := 1) (by decide) (by omega), KF_I hA hF (k := 2) (by decide) (by omega)]
  exact h
theorem c_scan_end (hA : Inj ad) (hS : Sh G ad) (hc : cT ad M T tl) (htl : tl ≤ 2000) (hk : cK0 ad M T tl (nT T tl)) : p_cl (m_X7_scan_52 G (ad 58) M (zn (tkP T tl (nT T tl)))) (fun M' _ => cK ad M' T tl ∧ Fr (KF ad) M M') := by
  have hn := nT_le (T := T) (tl := tl)
  have hle := tkP_ok (T := T) (tl := tl) (Nat.le_refl (nT T tl))
  have n60 : ad 60 ≠ ad 61 := ad_ne hA (by decide)
  have n61 : ad 61 ≠ ad 60 := ad_ne hA (by decide)
  have n58a : ad 58 ≠ ad 60 := ad_ne hA (by decide)
  have n58b : ad 58 ≠ ad 61 := ad_ne hA (by decide)
  unfold m_X7_scan_52 m_X7_close
  refine c_clm (P := fun M' _ => cK ad M' T tl ∧ Fr (KF ad) M M') (c_rf (sh_k2 hS) ?_) (fun M' _ h => c_some h)
  rw [hk.1, sh_kn2 hS]
  refine c_f (by rw [zn_le (by omega) (by omega)]; omega) (c_rf (sh_k2 hS) (c_rf (sh_k0 hS) ?_))
  rw [hc.1]
  have fin : ∀ k : Nat, k = kdT T tl (nT T tl) → p_cl (m_X7_close_36 G (ad 58) (zn (tkP T tl (nT T tl))) M (ad 60) (zn (nT T tl)) (zn k)) (fun M' _ => cK ad M' T tl ∧ Fr (KF ad) M M') := by
    rintro k rfl
    unfold m_X7_close_36
    refine c_ix (by rw [sh_kn2 hS]; exact zn_in (by omega) (by decide)) (c_wI (c_rf (sh_k3 hS) ?_))
    rw [mI_wI, if_neg n58a, hk.1]
    refine c_ix (by rw [sh_kn3 hS]; exact zn_in (by omega) (by decide)) (c_wI (c_rf (sh_k4 hS) ?_))
    rw [mI_wI, if_neg n58b, mI_wI, if_neg n58a, hk.1, zn_nat (show nT T tl < 2147483648 by omega)]
    refine c_ix (by rw [sh_kn4 hS]; exact zn_in (by omega) (by decide)) (c_wJ (c_some ⟨⟨?_, fun j hj => ?_, fun j hj => ?_⟩, ?_⟩))
    · show mI (wI (wI M (ad 60) _ _) (ad 61) _ _) (ad 58) 5 = _
      rw [mI_wI, if_neg n58b, mI_wI, if_neg n58a, hk.1]
    · show mI (wI (wI M (ad 60) _ _) (ad 61) _ _) (ad 60) j = _ ∧ mI (wI (wI M (ad 60) _ _) (ad 61) _ _) (ad 61) j = _
      rw [mI_wI, if_neg n60, mI_wI, if_pos rfl, mI_wI, if_pos rfl, mI_wI, if_neg n61, upd_at, upd_at]
      by_cases e : j = nT T tl
      · rw [if_pos e, if_pos e, e]
        exact ⟨rfl, rfl⟩
      · rw [if_neg e, if_neg e]
        have := hk.2 j (by omega)
        unfold kdT
        rw [if_pos (by omega)]
        exact ⟨this.1, this.2.1⟩
    · rw [mJ_wJ, if_pos rfl, updL_at, if_neg (by omega)]
      exact (hk.2 j hj).2.2
    · exact Fr_wJ (Fr_wI (Fr_wI Fr_rf (KF_in (by omega) (by omega))) (KF_in (by omega) (by omega))) (KF_in (by omega) (by omega))
  have ekd : kdT T tl (nT T tl) = if tkP T tl (nT T tl) < tl then 1 else 0 := by
    unfold kdT
    rw [if_neg (Nat.lt_irrefl _)]
  refine c_if (fun g => ?_) (fun g => ?_)
  · rw [zn_le (by omega) (by omega)] at g
    exact fin 0 (by rw [ekd, if_neg (by omega)])
  · rw [zn_le (by omega) (by omega)] at g
    exact fin 1 (by rw [ekd, if_pos (by omega)])
theorem c_scan_loop (hA : Inj ad) (hS : Sh G ad) (htl : tl ≤ 2000) (hT : ∀ k, k < tl → T k < 256) : ∀ (d i f : Nat) (M : mS), i + d = 400 → d < f → (∀ j, j < i → 2 ≤ kd0 T tl j) → nT T tl = tkN T tl d i → cT ad M T tl → (∀ w, w < 33 → mJ M (ad 59) w = wdJ w) → cK0 ad M T tl i → p_cl (m_X7_scan_16 G (ad 58) f M (zn (tkP T tl i)) (zn i)) (fun M' _ => cK ad M' T tl ∧ (∀ w, w < 33 → mJ M' (ad 59) w = wdJ w) ∧ Fr (KF ad) M M') := by
  intro d
  induction d with
  | zero =>
    intro i f M hi hf hge hn hc hW hk
    obtain ⟨f, rfl⟩ : ∃ g, f = g + 1 := ⟨f - 1, by omega⟩
    have hi : i = 400 := by omega
    subst hi
    rw [tkN] at hn
    rw [m_X7_scan_16]
    refine c_t (by decide) ?_
    have := c_scan_end hA hS hc htl (by rw [hn]; exact hk)
    rw [hn] at this
    refine c_mono this ?_
    rintro M' _ ⟨g1, g2⟩
    exact ⟨g1, fun w hw => by rw [KF_J hA g2 (by decide) (by omega)]; exact hW w hw, g2⟩
  | succ d ih =>
    intro i f M hi hf hge hn hc hW hk
    obtain ⟨f, rfl⟩ : ∃ g, f = g + 1 := ⟨f - 1, by omega⟩
    have hle := tkP_le (T := T) (tl := tl) i hge
    rw [m_X7_scan_16]
    refine c_f (by rw [show (400 : Int32) = zn 400 from rfl, zn_le (by omega) (by omega)]; omega) (c_clm (c_readToken hA hS hc htl hT hW (by omega) hle hk) ?_)
    rintro M1 r ⟨rfl, g1, g2, g3⟩
    by_cases h1 : kd0 T tl i ≤ 1
    · obtain ⟨rfl, e⟩ := g2 h1
      rw [tkN, if_pos h1] at hn
      refine c_t (by rw [e]) ?_
      have := c_scan_end hA hS hc htl (by rw [hn]; exact hk)
      rw [hn] at this
      refine c_mono this ?_
      rintro M' _ ⟨g4, g5⟩
      exact ⟨g4, fun w hw => by rw [KF_J hA g5 (by decide) (by omega)]; exact hW w hw, g5⟩
    · rw [tkN, if_neg h1] at hn
      obtain ⟨e1, e2, e3⟩ := tkE_ok (T := T) (tl := tl) (p := tkP T tl i) (show 2 ≤ kd0 T tl i by omega)
      have hc1 := cT_KF hA hc g3
      refine c_f (by rw [zn_inj (by omega) (by omega)]; omega) (c_rf (sh_k0 hS) ?_)
      rw [c_skip hS hc1 htl hT e2]
      refine c_cl (c_some (c_bd ?_))
      rw [zn_one]
      refine c_mono (ih (i + 1) f M1 (by omega) (by omega) (fun j hj => ?_) hn hc1 (fun w hw => by rw [KF_J hA g3 (by decide) (by omega)]; exact hW w hw) (g1 (by omega))) ?_
      · by_cases e : j = i
        · rw [e]; omega
        · exact hge j (by omega)
      · rintro M2 _ ⟨q1, q2, q3⟩
        exact ⟨q1, q2, Fr_tr g3 q3⟩
theorem c_scan (hA : Inj ad) (hS : Sh G ad) (htl : tl ≤ 2000) (hT : ∀ k, k < tl → T k < 256) (hc : cT ad M T tl) (hW : ∀ w, w < 33 → mJ M (ad 59) w = wdJ w) : p_cl (m_X7_scan G M (ad 58)) (fun M' _ => cK ad M' T tl ∧ cT ad M' T tl ∧ (∀ w, w < 33 → mJ M' (ad 59) w = wdJ w) ∧ Fr (KF ad) M M') := by
  have hF : Fr (KF ad) M (wI M (ad 58) 5 0) := Fr_wI Fr_rf (Or.inl rfl)
  have hc1 := cT_KF hA hc hF
  unfold m_X7_scan
  refine c_wI (c_rf (sh_k0 hS) ?_)
  rw [show m_X6_skipBlanks G (wI M (ad 58) 5 0) (ad 1) (0 : Int32) = some (wI M (ad 58) 5 0, zn (sk T tl 0)) from c_skip hS hc1 htl hT (Nat.zero_le tl)]
  refine c_cl (c_some (c_mono (c_scan_loop hA hS htl hT 400 0 fu _ (by omega) (by unfold fu; omega) (fun j hj => by omega) rfl hc1 (fun w hw => by rw [KF_J hA hF (by decide) (by omega)]; exact hW w hw) ⟨by rw [mI_wI, if_pos rfl, upd_at, if_pos rfl]; rfl, fun j hj => by omega⟩) ?_))
  rintro M' _ ⟨g1, g2, g3⟩
  exact ⟨g1, cT_KF hA hc1 g3, g2, Fr_tr hF g3⟩
end Scan
