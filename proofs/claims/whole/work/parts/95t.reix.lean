/-! the same things at other numbers -/
section ReIx
variable {G G2 : gS} {ad ad2 : Nat → Nat} {M : mS} {Y : aY} {P : aP} {T : Nat → Nat} {tl : Nat} {ea : Int32}
theorem PSh_ad {p : Nat} (h : PSh G ad p) (he : ∀ k, p ≤ k → k < p + 9 → ad2 k = ad k) : PSh G ad2 p := by
  unfold PSh
  rw [he p (by omega) (by omega), he (p + 1) (by omega) (by omega), he (p + 2) (by omega) (by omega), he (p + 3) (by omega) (by omega), he (p + 4) (by omega) (by omega), he (p + 5) (by omega) (by omega), he (p + 6) (by omega) (by omega), he (p + 7) (by omega) (by omega), he (p + 8) (by omega) (by omega)]
  exact h
theorem SSh_ad {s : Nat} (h : SSh G ad s) (he : ∀ k, s ≤ k → k < s + 12 → ad2 k = ad k) (h70 : ad2 70 = ad 70) : SSh G ad2 s := by
  unfold SSh
  rw [he s (by omega) (by omega), he (s + 1) (by omega) (by omega), he (s + 2) (by omega) (by omega), he (s + 3) (by omega) (by omega), he (s + 4) (by omega) (by omega), he (s + 5) (by omega) (by omega), he (s + 6) (by omega) (by omega), he (s + 7) (by omega) (by omega), he (s + 8) (by omega) (by omega), he (s + 9) (by omega) (by omega), he (s + 10) (by omega) (by omega), he (s + 11) (by omega) (by omega), h70]
  exact h
theorem LSh_mv {l l2 : Nat} (h : LSh G ad l) (he : ∀ i, i < 16 → ad2 (l2 + i) = ad (l + i)) : LSh G ad2 l2 := by
  unfold LSh
  rw [show ad2 l2 = ad l from he 0 (by decide), he 1 (by decide), he 2 (by decide), he 3 (by decide), he 4 (by decide), he 5 (by decide), he 6 (by decide), he 7 (by decide), he 8 (by decide), he 9 (by decide), he 10 (by decide), he 11 (by decide), he 12 (by decide), he 13 (by decide), he 14 (by decide), he 15 (by decide)]
  exact h
theorem YSh_ad {y : Nat} (h : YSh G ad y) (he : ∀ k, y ≤ k → k < y + 17 → ad2 k = ad k) : YSh G ad2 y := by
  obtain ⟨a1, a2, a3, a4, a5, a6, a7, a8, a9, a10⟩ := h
  unfold YSh ASh
  rw [he y (by omega) (by omega), he (y + 1) (by omega) (by omega), he (y + 2) (by omega) (by omega), he (y + 3) (by omega) (by omega), he (y + 4) (by omega) (by omega)]
  refine ⟨a1, a2, a3, a4, fun i hi => ?_, a6, a7, a8, a9, fun i hi => ?_⟩
  · rw [he (y + 5 + 2 * i) (by omega) (by omega)]; exact a5 i hi
  · rw [he (y + 5 + 2 * i) (by omega) (by omega), he (y + 5 + 2 * i + 1) (by omega) (by omega)]; exact a10 i hi
theorem cA_ad {a : Nat} {A : aA} (h : cA ad M a A) (he : ad2 a = ad a) (he1 : ad2 (a + 1) = ad (a + 1)) : cA ad2 M a A := by
  unfold cA cA0
  rw [he, he1]
  exact h
theorem cY_ad {y : Nat} (h : cY ad M y Y) (hn : yd_n Y ≤ 6) (he : ∀ k, y ≤ k → k < y + 17 → ad2 k = ad k) : cY ad2 M y Y := by
  refine ⟨?_, ?_, fun i hi => cA_ad (h.2.2 i hi) (he _ (by omega) (by omega)) (he _ (by omega) (by omega))⟩
  · unfold cYc
    rw [he (y + 1) (by omega) (by omega), he (y + 2) (by omega) (by omega), he (y + 3) (by omega) (by omega)]
    exact h.1
  · unfold cYf
    rw [he y (by omega) (by omega)]
    exact h.2.1
theorem cP_ad {p : Nat} (h : cP ad M p P) (he : ∀ k, p ≤ k → k < p + 9 → ad2 k = ad k) : cP ad2 M p P := by
  unfold cP
  rw [he p (by omega) (by omega), he (p + 1) (by omega) (by omega), he (p + 2) (by omega) (by omega), he (p + 3) (by omega) (by omega), he (p + 4) (by omega) (by omega), he (p + 5) (by omega) (by omega), he (p + 6) (by omega) (by omega), he (p + 7) (by omega) (by omega), he (p + 8) (by omega) (by omega)]
  exact h
theorem CA_ad (h : CA ad M Y P T tl ea) (hn : yd_n Y ≤ 6) (he : ∀ k, k < 66 → ad2 k = ad k) : CA ad2 M Y P T tl ea := by
  obtain ⟨a1, a2, a3, a4, a5, a6⟩ := h
  refine ⟨cY_ad a1 hn (fun k _ k2 => he k (by omega)), cP_ad a2 (fun k _ k2 => he k (by omega)), ?_, ?_, ?_, ?_⟩
  · rw [he 1 (by decide)]; exact a3
  · rw [he 2 (by decide)]; exact a4
  · rw [he 59 (by decide)]; exact a5
  · rw [he 0 (by decide)]; exact a6
theorem mY_ad {s : Nat} (h : mY ad M s Y) (he : ∀ k, s ≤ k → k < s + 11 → ad2 k = ad k) : mY ad2 M s Y := by
  refine ⟨?_, ?_, fun i hi => ?_⟩
  · unfold mYc
    rw [he (s + 1) (by omega) (by omega), he (s + 2) (by omega) (by omega)]
    exact h.1
  · unfold mYf
    rw [he s (by omega) (by omega)]
    exact h.2.1
  · unfold mA
    rw [he (s + 3) (by omega) (by omega), he (s + 4) (by omega) (by omega), he (s + 5) (by omega) (by omega), he (s + 6) (by omega) (by omega), he (s + 7) (by omega) (by omega), he (s + 8) (by omega) (by omega), he (s + 9) (by omega) (by omega), he (s + 10) (by omega) (by omega)]
    exact h.2.2 i hi
theorem mP_ad {b n : Nat} {ru : Nat → Nat} (h : mPb ad M b P n ru) (he : ∀ i, i < 16 → ad2 (110 + i) = ad (b + i)) : mP ad2 M P n ru := by
  refine mPb_110 ?_
  unfold mPb
  rw [show ad2 110 = ad b from he 0 (by decide), he 1 (by decide), he 2 (by decide), he 4 (by decide), he 9 (by decide), he 10 (by decide), he 11 (by decide), he 12 (by decide), he 13 (by decide), he 14 (by decide)]
  exact h
theorem MA_ad (h : MA ad M Y P T tl ea) (he : ∀ k, 70 ≤ k → k < 126 → usd k → ad2 k = ad k) : MA ad2 M Y P T tl ea := by
  obtain ⟨a1, a2, a3, a4, a5⟩ := h
  refine ⟨mY_ad a1 (fun k k1 k2 => he k (by omega) (by omega) (by unfold usd; omega)), mP_ad (b := 110) a2 (fun i hi => he _ (by omega) (by omega) (by unfold usd; omega)), ?_, ?_, ?_⟩
  · rw [he 70 (by decide) (by decide) (by decide)]; exact a3
  · rw [he 71 (by decide) (by decide) (by decide)]; exact a4
  · rw [he 70 (by decide) (by decide) (by decide)]; exact a5
set_option maxHeartbeats 2000000 in
theorem Sh_re (h : Sh G ad) (he : ∀ k, usd k → ¬ (110 ≤ k ∧ k < 126) → ad2 k = ad k) (hP : ∀ k, usd k → ¬ (110 ≤ k ∧ k < 126) → k ≠ 70 → gP G2 (ad k) = gP G (ad k)) (h70 : ∀ i, i ≠ 11 → i ≠ 12 → gP G2 (ad 70) i = gP G (ad 70) i) (hN : ∀ k, usd k → ¬ (110 ≤ k ∧ k < 126) → gN G2 (ad k) = gN G (ad k)) (h11 : KSh G2 ad2) (hL : LSh G2 ad2 110) (hK : gK G2 (ad2 70) = 11) : Sh G2 ad2 :=
  ⟨(by rw [he 0 (by decide) (by decide), he 1 (by decide) (by decide), hP 0 (by decide) (by decide) (by decide)]; exact sh_x0 h), (by rw [he 0 (by decide) (by decide), he 3 (by decide) (by decide), hP 0 (by decide) (by decide) (by decide)]; exact sh_x1 h), (by rw [he 0 (by decide) (by decide), he 21 (by decide) (by decide), hP 0 (by decide) (by decide) (by decide)]; exact sh_x2 h), (by rw [he 0 (by decide) (by decide), he 38 (by decide) (by decide), hP 0 (by decide) (by decide) (by decide)]; exact sh_x3 h), (by rw [he 0 (by decide) (by decide), he 55 (by decide) (by decide), hP 0 (by decide) (by decide) (by decide)]; exact sh_x4 h), (by rw [he 0 (by decide) (by decide), he 63 (by decide) (by decide), hP 0 (by decide) (by decide) (by decide)]; exact sh_x5 h), (by rw [he 1 (by decide) (by decide), he 2 (by decide) (by decide), hP 1 (by decide) (by decide) (by decide)]; exact sh_t0 h), (by rw [he 2 (by decide) (by decide), hN 2 (by decide) (by decide)]; exact sh_tn h), (PSh_ad (PSh_ext (sh_P3 h) (fun k k1 k2 => hP k (by unfold usd; omega) (by omega) (by omega)) (fun k k1 k2 => hN k (by unfold usd; omega) (by omega))) (fun k k1 k2 => he k (by unfold usd; omega) (by omega))), (PSh_ad (PSh_ext (sh_P12 h) (fun k k1 k2 => hP k (by unfold usd; omega) (by omega) (by omega)) (fun k k1 k2 => hN k (by unfold usd; omega) (by omega))) (fun k k1 k2 => he k (by unfold usd; omega) (by omega))), (YSh_ad (YSh_ext (sh_Y21 h) (fun k k1 k2 => hP k (by unfold usd; omega) (by omega) (by omega)) (fun k k1 k2 => hN k (by unfold usd; omega) (by omega))) (fun k k1 k2 => he k (by unfold usd; omega) (by omega))), (YSh_ad (YSh_ext (sh_Y38 h) (fun k k1 k2 => hP k (by unfold usd; omega) (by omega) (by omega)) (fun k k1 k2 => hN k (by unfold usd; omega) (by omega))) (fun k k1 k2 => he k (by unfold usd; omega) (by omega))), ⟨(by rw [he 63 (by decide) (by decide), he 3 (by decide) (by decide), hP 63 (by decide) (by decide) (by decide)]; exact (sh_T h).1), (by rw [he 63 (by decide) (by decide), he 64 (by decide) (by decide), hP 63 (by decide) (by decide) (by decide)]; exact (sh_T h).2)⟩, ⟨(by rw [he 64 (by decide) (by decide), he (64 + 1) (by decide) (by decide), hP 64 (by decide) (by decide) (by decide)]; exact (sh_R h).1), (by rw [he (64 + 1) (by decide) (by decide), hN (64 + 1) (by decide) (by decide)]; exact (sh_R h).2)⟩, (by rw [he 55 (by decide) (by decide), he 58 (by decide) (by decide), hP 55 (by decide) (by decide) (by decide)]; exact sh_q0 h), (by rw [he 55 (by decide) (by decide), he 12 (by decide) (by decide), hP 55 (by decide) (by decide) (by decide)]; exact sh_q1 h), (by rw [he 55 (by decide) (by decide), he 38 (by decide) (by decide), hP 55 (by decide) (by decide) (by decide)]; exact sh_q2 h), (by rw [he 55 (by decide) (by decide), he 56 (by decide) (by decide), hP 55 (by decide) (by decide) (by decide)]; exact sh_q3 h), (by rw [he 55 (by decide) (by decide), he 57 (by decide) (by decide), hP 55 (by decide) (by decide) (by decide)]; exact sh_q4 h), (by rw [he 56 (by decide) (by decide), hN 56 (by decide) (by decide)]; exact sh_qn3 h), (by rw [he 57 (by decide) (by decide), hN 57 (by decide) (by decide)]; exact sh_qn4 h), (by rw [he 58 (by decide) (by decide), he 1 (by decide) (by decide), hP 58 (by decide) (by decide) (by decide)]; exact sh_k0 h), (by rw [he 58 (by decide) (by decide), he 59 (by decide) (by decide), hP 58 (by decide) (by decide) (by decide)]; exact sh_k1 h), (by rw [he 58 (by decide) (by decide), he 60 (by decide) (by decide), hP 58 (by decide) (by decide) (by decide)]; exact sh_k2 h), (by rw [he 58 (by decide) (by decide), he 61 (by decide) (by decide), hP 58 (by decide) (by decide) (by decide)]; exact sh_k3 h), (by rw [he 58 (by decide) (by decide), he 62 (by decide) (by decide), hP 58 (by decide) (by decide) (by decide)]; exact sh_k4 h), (by rw [he 59 (by decide) (by decide), hN 59 (by decide) (by decide)]; exact sh_kn1 h), (by rw [he 60 (by decide) (by decide), hN 60 (by decide) (by decide)]; exact sh_kn2 h), (by rw [he 61 (by decide) (by decide), hN 61 (by decide) (by decide)]; exact sh_kn3 h), (by rw [he 62 (by decide) (by decide), hN 62 (by decide) (by decide)]; exact sh_kn4 h), (by rw [he 70 (by decide) (by decide), he 71 (by decide) (by decide), h70 1 (by decide) (by decide)]; exact sh_m1 h), (by rw [he 70 (by decide) (by decide), he 72 (by decide) (by decide), h70 4 (by decide) (by decide)]; exact sh_m4 h), (by rw [he 70 (by decide) (by decide), he 73 (by decide) (by decide), h70 5 (by decide) (by decide)]; exact sh_m5 h), (by rw [he 70 (by decide) (by decide), he 74 (by decide) (by decide), h70 6 (by decide) (by decide)]; exact sh_m6 h), (by rw [he 70 (by decide) (by decide), he 75 (by decide) (by decide), h70 7 (by decide) (by decide)]; exact sh_m7 h), (by rw [he 70 (by decide) (by decide), he 76 (by decide) (by decide), h70 8 (by decide) (by decide)]; exact sh_m8 h), (by rw [he 70 (by decide) (by decide), he 80 (by decide) (by decide), h70 13 (by decide) (by decide)]; exact sh_m13 h), (by rw [he 70 (by decide) (by decide), he 92 (by decide) (by decide), h70 14 (by decide) (by decide)]; exact sh_m14 h), (by rw [he 71 (by decide) (by decide), hN 71 (by decide) (by decide)]; exact sh_mn1 h), (by rw [he 72 (by decide) (by decide), hN 72 (by decide) (by decide)]; exact sh_mn4 h), (by rw [he 73 (by decide) (by decide), hN 73 (by decide) (by decide)]; exact sh_mn5 h), (by rw [he 74 (by decide) (by decide), hN 74 (by decide) (by decide)]; exact sh_mn6 h), (by rw [he 75 (by decide) (by decide), hN 75 (by decide) (by decide)]; exact sh_mn7 h), (by rw [he 76 (by decide) (by decide), hN 76 (by decide) (by decide)]; exact sh_mn8 h), h11, (SSh_ad (SSh_ext (sh_S80 h) (fun k k1 k2 => hP k (by unfold usd; omega) (by omega) (by omega)) (fun k k1 k2 => hN k (by unfold usd; omega) (by omega))) (fun k k1 k2 => he k (by unfold usd; omega) (by omega)) (he 70 (by decide) (by decide))), (SSh_ad (SSh_ext (sh_S92 h) (fun k k1 k2 => hP k (by unfold usd; omega) (by omega) (by omega)) (fun k k1 k2 => hN k (by unfold usd; omega) (by omega))) (fun k k1 k2 => he k (by unfold usd; omega) (by omega)) (he 70 (by decide) (by decide))), hL, (by rw [he 105 (by decide) (by decide), hN 105 (by decide) (by decide)]; exact sh_o h), hK⟩
end ReIx
