/-! what is made, in the form of the walk; what holds between two calls -/
def Inv (x mm o j : Nat) (G : gS) (M : mS) : Prop := ∃ (ad : Nat → Nat) (Y : aY) (P : aP) (T : Nat → Nat) (tl : Nat) (ea : Int32), Inj ad ∧ (ad 0 = x ∧ ad 70 = mm ∧ ad 105 = o) ∧ Sh G ad ∧ Us G ad ∧ vY (1000 * j) Y ∧ vR P Y ∧ vP (yd_n Y) P ∧ (tl ≤ 2000 ∧ ∀ k, k < tl → T k < 256) ∧ CA ad M Y P T tl ea ∧ MA ad M Y P T tl ea
section BuildE
variable {G0 G G' : gS} {M0 M M' : mS} {ad : Nat → Nat} {U : List Nat} {N F : List (Nat × Nat × Nat)} {V : Nat → Nat → Int32} {VJ : Nat → Nat → Int64}
theorem Bu_nwE (h : Bu G0 M0 G M ad U N F V VJ) {q : Nat} (hq : q ∉ gL G) {ci n : Nat} (eG : G' = gNw G q ci n) (eM : M' = wZ M q) {k : Nat} (hk : k ∉ U) (hV : V k = fun _ => 0) (hJ : VJ k = fun _ => 0) : Bu G0 M0 G' M' (adw ad k q) (k :: U) ((k, ci, n) :: N) F V VJ := by
  rw [eG, eM]
  exact Bu_nw h hq hk hV hJ
theorem Bu_stE (h : Bu G0 M0 G M ad U N F V VJ) {i f j a b : Nat} (eG : G' = gSt G a f b) (hi : i ∈ U) (hj : j ∈ U) (ha : ad i = a) (hb : ad j = b) (hF : ∀ t ∈ F, ¬ (t.1 = i ∧ t.2.1 = f)) : Bu G0 M0 G' M ad U N ((i, f, j) :: F) V VJ := by
  rw [eG]
  exact Bu_st h hi hj ha hb hF
theorem Bu_wIE (h : Bu G0 M0 G M ad U N F V VJ) {i a x : Nat} {v : Int32} (eM : M' = wI M a x v) (hi : i ∈ U) (ha : ad i = a) : Bu G0 M0 G M' ad U N F (fun k => if k = i then upd (V i) x v else V k) VJ := by
  rw [eM]
  exact Bu_wI h hi ha
theorem Bu_Pe (h : Bu G0 M0 G M ad U N F V VJ) {i f j : Nat} (ht : (i, f, j) ∈ F) {a b : Nat} (ha : ad i = a) (hb : ad j = b) : gP G a f = some b := by
  rw [← ha, ← hb]
  exact Bu_P h ht
theorem Bu_in (h : Bu G0 M0 G M ad U N F V VJ) {k c n : Nat} (ht : (k, c, n) ∈ N) {a : Nat} (ha : ad k = a) {i : Int32} (hv : vp_in i n) : vp_in i (gN G a) := by
  rw [← ha, Bu_N h ht]
  exact hv
theorem Bu_words (h : Bu G0 M0 G M ad U N F V VJ) (hg : gL G0 = []) {i : Nat} (hi : i ∈ U) (w2 : mI M' = mI M) {w : Nat} (hw : ad i = w) (w3 : ∀ b, b ≠ w → mJ M' b = mJ M b) : Bu G0 M0 G M' ad U N F V (fun k => if k = i then mJ M' w else VJ k) := by
  refine Bu_V h hg (fun k hk => ⟨by rw [w2]; exact (h.2.2.2.2.2 k hk).1, ?_⟩)
  show mJ M' (ad k) = if k = i then mJ M' w else VJ k
  by_cases e : k = i
  · rw [if_pos e, e, hw]
  · rw [if_neg e, w3 _ (fun q => e (h.2.2.1 k hk i hi (q.trans hw.symm)))]
    exact (h.2.2.2.2.2 k hk).2
theorem Bu_begin (hA : Inj ad) (h : Bu G0 M0 G M ad U N F V VJ) (hg : gL G0 = []) (hF : Fr (Bk ad 80 92) M M') : Bu G0 M0 G M' ad U N F (fun k => if 80 ≤ k ∧ k < 92 then mI M' (ad k) else V k) (fun k => if 80 ≤ k ∧ k < 92 then mJ M' (ad k) else VJ k) := by
  refine Bu_V h hg (fun k hk => ⟨?_, ?_⟩)
  · show mI M' (ad k) = if 80 ≤ k ∧ k < 92 then mI M' (ad k) else V k
    by_cases e : 80 ≤ k ∧ k < 92
    · rw [if_pos e]
    · rw [if_neg e, hF.1 _ (Bk_out hA (by omega))]
      exact (h.2.2.2.2.2 k hk).1
  · show mJ M' (ad k) = if 80 ≤ k ∧ k < 92 then mJ M' (ad k) else VJ k
    by_cases e : 80 ≤ k ∧ k < 92
    · rw [if_pos e]
    · rw [if_neg e, hF.2 _ (Bk_out hA (by omega))]
      exact (h.2.2.2.2.2 k hk).2
theorem usd_in {U : List Nat} (k : Nat) (hk : usd k) (h : ∀ j, j < 126 → usd j → j ∈ U) : k ∈ U := h k (by unfold usd at hk; omega) hk
theorem mY_tr {ad2 : Nat → Nat} {s : Nat} {Y : aY} (h : mY ad M s Y) (hI : ∀ k, s ≤ k → k < s + 11 → mI M' (ad2 k) = mI M (ad k)) : mY ad2 M' s Y := by
  refine ⟨?_, ?_, fun i hi => ?_⟩
  · unfold mYc
    rw [hI (s + 1) (by omega) (by omega), hI (s + 2) (by omega) (by omega)]
    exact h.1
  · unfold mYf
    rw [hI s (by omega) (by omega)]
    exact h.2.1
  · unfold mA
    rw [hI (s + 3) (by omega) (by omega), hI (s + 4) (by omega) (by omega), hI (s + 5) (by omega) (by omega), hI (s + 6) (by omega) (by omega), hI (s + 7) (by omega) (by omega), hI (s + 8) (by omega) (by omega), hI (s + 9) (by omega) (by omega), hI (s + 10) (by omega) (by omega)]
    exact h.2.2 i hi
theorem cn_c0 {v : Nat} : ∀ k : Nat, cn (fun _ => 0) v k = if v = 0 then k else 0 := by
  intro k
  induction k with
  | zero => rw [cn]; split <;> rfl
  | succ k ih =>
    rw [cn, ih]
    by_cases e : v = 0
    · rw [if_pos e, if_pos e, if_pos e.symm]
    · rw [if_neg e, if_neg e, if_neg (fun q => e q.symm)]
theorem st_inv {x mm o : Nat} (hA : Inj ad) (e0 : ad 0 = x) (e70 : ad 70 = mm) (e105 : ad 105 = o) (sS : Sh G ad) (sU : Us G ad) (h1 : mI M (ad 1) = fun _ => 0) (h3 : mI M (ad 3) = fun _ => 0) (h21 : mI M (ad 21) = fun _ => 0) (h22 : mI M (ad 22) = fun _ => 0) (h23 : mI M (ad 23) = fun _ => 0) (h24 : mI M (ad 24) = upd (fun _ => 0) 0 4096) (h0 : mI M (ad 0) = upd (fun _ => 0) 6 (-1)) (h70 : mI M (ad 70) = upd (fun _ => 0) 3 (-1)) (h110 : mI M (ad 110) = fun _ => 0) (hy : mY ad M 80 aY0) (hw : ∀ w, w < 33 → mJ M (ad 59) w = wdJ w) : Inv x mm o 0 G M := by
  refine ⟨ad, aY0, aP0, fun _ => 0, 0, -1, hA, ⟨e0, e70, e105⟩, sS, sU, ⟨fun _ => (by decide : (0 : Nat) < 6), by decide, fun i hi => absurd hi (Nat.not_lt_zero i)⟩, fun i hi => absurd hi (Nat.not_lt_zero i), ⟨by decide, fun r hr => absurd hr (Nat.not_lt_zero r), fun _ _ => (by decide : (0 : Nat) < 4), by decide, by decide, fun k hk => absurd hk (Nat.not_lt_zero k)⟩, ⟨by decide, fun k hk => absurd hk (Nat.not_lt_zero k)⟩, ⟨⟨⟨fun p hp => ?_, fun r hr => ?_, fun v hv => ?_⟩, ⟨?_, ?_, ?_, ?_, ?_⟩, fun i hi => absurd hi (Nat.not_lt_zero i)⟩, ⟨⟨?_, ?_, ?_⟩, fun r hr => absurd hr (Nat.not_lt_zero r), fun r hr => absurd hr (Nat.not_lt_zero r), fun k hk => absurd hk (Nat.not_lt_zero k), fun k hk => absurd hk (Nat.not_lt_zero k)⟩, ?_, fun k hk => absurd hk (Nat.not_lt_zero k), hw, ?_⟩, hy, ⟨⟨?_, ?_, ?_⟩, fun r hr => absurd hr (Nat.not_lt_zero r), fun r hr => absurd hr (Nat.not_lt_zero r), fun i hi => absurd hi (Nat.not_lt_zero i), fun k hk => absurd hk (Nat.not_lt_zero k), fun k hk => absurd hk (Nat.not_lt_zero k)⟩, ?_, fun k hk => absurd hk (Nat.not_lt_zero k), ?_⟩
  · rw [show mI M (ad (21 + 1)) = _ from h22]; rfl
  · rw [show mI M (ad (21 + 2)) = _ from h23, show nz (yd_c aY0) (64 * r) 64 = 0 from nz_all0 64 (fun _ _ _ => rfl)]; rfl
  · rw [show mI M (ad (21 + 3)) = _ from h24, upd_at, show cn (yd_c aY0) v 4096 = _ from cn_c0 4096]
    by_cases e : v = 0
    · rw [if_pos e, if_pos e]; rfl
    · rw [if_neg e, if_neg e]; rfl
  · rw [h21]; rfl
  · rw [h21]; rfl
  · rw [h21]; rfl
  · rw [h21]; rfl
  · rw [h21]; rfl
  · rw [h3]; rfl
  · rw [h3]; rfl
  · rw [h3]; rfl
  · rw [h1]; rfl
  · rw [h0]; rfl
  · rw [h110]; rfl
  · rw [h110]; rfl
  · rw [h110]; rfl
  · rw [h70]; rfl
  · rw [h70]; rfl
end BuildE
