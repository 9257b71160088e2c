/-! what is used; shapes stay when something is made -/
abbrev usd (k : Nat) : Prop := k < 66 ∨ (70 ≤ k ∧ k < 77) ∨ (80 ≤ k ∧ k < 104) ∨ k = 105 ∨ (110 ≤ k ∧ k < 126)
def Us (G : gS) (ad : Nat → Nat) : Prop := (∀ k, usd k → ad k ∈ gL G) ∧ gK G (ad 0) = 8
theorem mI_wZ {M : mS} {q b : Nat} : mI (wZ M q) b = if b = q then (fun _ => 0) else mI M b := rfl
theorem mJ_wZ {M : mS} {q b : Nat} : mJ (wZ M q) b = if b = q then (fun _ => 0) else mJ M b := rfl
section Ext
variable {G G' : gS} {ad : Nat → Nat}
theorem Us_ne (hU : Us G ad) {q k : Nat} (hq : q ∉ gL G) (hk : usd k) : ad k ≠ q := fun e => hq (e ▸ hU.1 k hk)
theorem PSh_ext {p : Nat} (h : PSh G ad p) (hP : ∀ k, p ≤ k → k < p + 9 → gP G' (ad k) = gP G (ad k)) (hN : ∀ k, p ≤ k → k < p + 9 → gN G' (ad k) = gN G (ad k)) : PSh G' ad p := by
  unfold PSh
  rw [hP p (by omega) (by omega), hN (p + 1) (by omega) (by omega), hN (p + 2) (by omega) (by omega), hN (p + 3) (by omega) (by omega), hN (p + 4) (by omega) (by omega), hN (p + 5) (by omega) (by omega), hN (p + 6) (by omega) (by omega), hN (p + 7) (by omega) (by omega), hN (p + 8) (by omega) (by omega)]
  exact h
theorem SSh_ext {s : Nat} (h : SSh G ad s) (hP : ∀ k, s ≤ k → k < s + 12 → gP G' (ad k) = gP G (ad k)) (hN : ∀ k, s ≤ k → k < s + 12 → gN G' (ad k) = gN G (ad k)) : SSh G' ad s := by
  unfold SSh
  rw [hP s (by omega) (by omega), hN (s + 1) (by omega) (by omega), hN (s + 2) (by omega) (by omega), hN (s + 3) (by omega) (by omega), hN (s + 4) (by omega) (by omega), hN (s + 5) (by omega) (by omega), hN (s + 6) (by omega) (by omega), hN (s + 7) (by omega) (by omega), hN (s + 8) (by omega) (by omega), hN (s + 9) (by omega) (by omega), hN (s + 10) (by omega) (by omega), hN (s + 11) (by omega) (by omega)]
  exact h
theorem LSh_ext {l : Nat} (h : LSh G ad l) (hP : ∀ k, l ≤ k → k < l + 16 → gP G' (ad k) = gP G (ad k)) (hN : ∀ k, l ≤ k → k < l + 16 → gN G' (ad k) = gN G (ad k)) : LSh G' ad l := by
  unfold LSh
  rw [hP l (by omega) (by omega), hN (l + 1) (by omega) (by omega), hN (l + 2) (by omega) (by omega), hN (l + 3) (by omega) (by omega), hN (l + 4) (by omega) (by omega), hN (l + 5) (by omega) (by omega), hN (l + 6) (by omega) (by omega), hN (l + 7) (by omega) (by omega), hN (l + 8) (by omega) (by omega), hN (l + 9) (by omega) (by omega), hN (l + 10) (by omega) (by omega), hN (l + 11) (by omega) (by omega), hN (l + 12) (by omega) (by omega), hN (l + 13) (by omega) (by omega), hN (l + 14) (by omega) (by omega), hN (l + 15) (by omega) (by omega)]
  exact h
theorem YSh_ext {y : Nat} (h : YSh G ad y) (hP : ∀ k, y ≤ k → k < y + 17 → gP G' (ad k) = gP G (ad k)) (hN : ∀ k, y ≤ k → k < y + 17 → gN G' (ad k) = gN G (ad k)) : YSh G' ad y := by
  obtain ⟨a1, a2, a3, a4, a5, a6, a7, a8, a9, a10⟩ := h
  refine ⟨?_, ?_, ?_, ?_, fun i hi => ?_, ?_, ?_, ?_, ?_, fun i hi => ⟨?_, ?_⟩⟩
  · rw [hP y (by omega) (by omega)]; exact a1
  · rw [hP y (by omega) (by omega)]; exact a2
  · rw [hP y (by omega) (by omega)]; exact a3
  · rw [hP y (by omega) (by omega)]; exact a4
  · rw [hP (y + 4) (by omega) (by omega)]; exact a5 i hi
  · rw [hN (y + 1) (by omega) (by omega)]; exact a6
  · rw [hN (y + 2) (by omega) (by omega)]; exact a7
  · rw [hN (y + 3) (by omega) (by omega)]; exact a8
  · rw [hN (y + 4) (by omega) (by omega)]; exact a9
  · rw [hP (y + 5 + 2 * i) (by omega) (by omega)]; exact (a10 i hi).1
  · rw [hN (y + 5 + 2 * i + 1) (by omega) (by omega)]; exact (a10 i hi).2
theorem Sh_ext (h : Sh G ad) (hP : ∀ k, usd k → gP G' (ad k) = gP G (ad k)) (hN : ∀ k, usd k → gN G' (ad k) = gN G (ad k)) (hKd : gK G' (ad 70) = gK G (ad 70)) : Sh G' ad :=
  ⟨(by rw [hP 0 (by decide)]; exact sh_x0 h), (by rw [hP 0 (by decide)]; exact sh_x1 h), (by rw [hP 0 (by decide)]; exact sh_x2 h), (by rw [hP 0 (by decide)]; exact sh_x3 h), (by rw [hP 0 (by decide)]; exact sh_x4 h), (by rw [hP 0 (by decide)]; exact sh_x5 h), (by rw [hP 1 (by decide)]; exact sh_t0 h), (by rw [hN 2 (by decide)]; exact sh_tn h), (PSh_ext (sh_P3 h) (fun k k1 k2 => hP k (by unfold usd; omega)) (fun k k1 k2 => hN k (by unfold usd; omega))), (PSh_ext (sh_P12 h) (fun k k1 k2 => hP k (by unfold usd; omega)) (fun k k1 k2 => hN k (by unfold usd; omega))), (YSh_ext (sh_Y21 h) (fun k k1 k2 => hP k (by unfold usd; omega)) (fun k k1 k2 => hN k (by unfold usd; omega))), (YSh_ext (sh_Y38 h) (fun k k1 k2 => hP k (by unfold usd; omega)) (fun k k1 k2 => hN k (by unfold usd; omega))), ⟨(by rw [hP 63 (by decide)]; exact (sh_T h).1), (by rw [hP 63 (by decide)]; exact (sh_T h).2)⟩, ⟨(by rw [hP 64 (by decide)]; exact (sh_R h).1), (by rw [hN (64 + 1) (by decide)]; exact (sh_R h).2)⟩, (by rw [hP 55 (by decide)]; exact sh_q0 h), (by rw [hP 55 (by decide)]; exact sh_q1 h), (by rw [hP 55 (by decide)]; exact sh_q2 h), (by rw [hP 55 (by decide)]; exact sh_q3 h), (by rw [hP 55 (by decide)]; exact sh_q4 h), (by rw [hN 56 (by decide)]; exact sh_qn3 h), (by rw [hN 57 (by decide)]; exact sh_qn4 h), (by rw [hP 58 (by decide)]; exact sh_k0 h), (by rw [hP 58 (by decide)]; exact sh_k1 h), (by rw [hP 58 (by decide)]; exact sh_k2 h), (by rw [hP 58 (by decide)]; exact sh_k3 h), (by rw [hP 58 (by decide)]; exact sh_k4 h), (by rw [hN 59 (by decide)]; exact sh_kn1 h), (by rw [hN 60 (by decide)]; exact sh_kn2 h), (by rw [hN 61 (by decide)]; exact sh_kn3 h), (by rw [hN 62 (by decide)]; exact sh_kn4 h), (by rw [hP 70 (by decide)]; exact sh_m1 h), (by rw [hP 70 (by decide)]; exact sh_m4 h), (by rw [hP 70 (by decide)]; exact sh_m5 h), (by rw [hP 70 (by decide)]; exact sh_m6 h), (by rw [hP 70 (by decide)]; exact sh_m7 h), (by rw [hP 70 (by decide)]; exact sh_m8 h), (by rw [hP 70 (by decide)]; exact sh_m13 h), (by rw [hP 70 (by decide)]; exact sh_m14 h), (by rw [hN 71 (by decide)]; exact sh_mn1 h), (by rw [hN 72 (by decide)]; exact sh_mn4 h), (by rw [hN 73 (by decide)]; exact sh_mn5 h), (by rw [hN 74 (by decide)]; exact sh_mn6 h), (by rw [hN 75 (by decide)]; exact sh_mn7 h), (by rw [hN 76 (by decide)]; exact sh_mn8 h), (by unfold KSh; rw [hP 70 (by decide)]; exact sh_K h), (SSh_ext (sh_S80 h) (fun k k1 k2 => hP k (by unfold usd; omega)) (fun k k1 k2 => hN k (by unfold usd; omega))), (SSh_ext (sh_S92 h) (fun k k1 k2 => hP k (by unfold usd; omega)) (fun k k1 k2 => hN k (by unfold usd; omega))), (LSh_ext (sh_L h) (fun k k1 k2 => hP k (by unfold usd; omega)) (fun k k1 k2 => hN k (by unfold usd; omega))), (by rw [hN 105 (by decide)]; exact sh_o h), (by rw [hKd]; exact sh_g70 h)⟩
theorem Sh_nw (hS : Sh G ad) (hU : Us G ad) {q ci N : Nat} (hq : q ∉ gL G) : Sh (gNw G q ci N) ad ∧ Us (gNw G q ci N) ad := by
  refine ⟨Sh_ext hS (fun k hk => ?_) (fun k hk => ?_) ?_, ⟨fun k hk => List.mem_append_left _ (hU.1 k hk), (if_neg (Us_ne hU hq (by decide : usd 0))).trans hU.2⟩⟩
  · exact if_neg (Us_ne hU hq hk)
  · exact if_neg (Us_ne hU hq hk)
  · exact if_neg (Us_ne hU hq (by decide : usd 70))
end Ext
section KeepU
variable {ad : Nat → Nat} {M M' : mS} {Y : aY} {P : aP} {T : Nat → Nat} {tl : Nat} {ea : Int32}
theorem CA_U (hn : yd_n Y ≤ 6) (h : CA ad M Y P T tl ea) (hI : ∀ k, usd k → mI M' (ad k) = mI M (ad k)) (hJ : ∀ k, usd k → mJ M' (ad k) = mJ M (ad k)) : CA ad M' Y P T tl ea := CA_keep hn h (fun k hk => hI k (by unfold usd; omega)) (hJ 59 (by decide))
theorem mA_keep {s i : Nat} {A : aA} (h : mA ad M s i A) (hI : ∀ k, s ≤ k → k < s + 11 → mI M' (ad k) = mI M (ad k)) : mA ad M' s i A := by
  unfold mA
  rw [hI (s + 3) (by omega) (by omega), hI (s + 4) (by omega) (by omega), hI (s + 5) (by omega) (by omega), hI (s + 6) (by omega) (by omega), hI (s + 7) (by omega) (by omega), hI (s + 8) (by omega) (by omega), hI (s + 9) (by omega) (by omega), hI (s + 10) (by omega) (by omega)]
  exact h
theorem mY_keep {s : Nat} (h : mY ad M s Y) (hI : ∀ k, s ≤ k → k < s + 11 → mI M' (ad k) = mI M (ad k)) : mY ad M' s Y := by
  refine ⟨?_, ?_, fun i hi => mA_keep (h.2.2 i hi) hI⟩
  · unfold mYc
    rw [hI (s + 1) (by omega) (by omega), hI (s + 2) (by omega) (by omega)]
    exact h.1
  · unfold mYf
    rw [hI s (by omega) (by omega)]
    exact h.2.1
theorem MA_U (h : MA ad M Y P T tl ea) (hI : ∀ k, usd k → mI M' (ad k) = mI M (ad k)) : MA ad M' Y P T tl ea := MA_y h (mY_keep h.1 (fun k k1 k2 => hI k (by unfold usd; omega))) rfl (fun _ => rfl) (by rw [hI 70 (by decide)]) (by rw [hI 70 (by decide)]) (hI 71 (by decide)) (fun k k1 k2 => hI k (by unfold usd; omega))
end KeepU
