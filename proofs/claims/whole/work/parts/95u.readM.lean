/-! the reference reads a list -/
section Words
variable {M : mS} {a j : Nat} {v : Int32} {k : mS → Prop}
theorem q_wI (h : k (wI M a j v)) : p_wI M a j v k := h
theorem q_rf {r : Option Nat} {a : Nat} {k : Nat → Prop} (h : r = some a) (H : k a) : p_rf r k := ⟨a, h, H⟩
theorem q_ix {i : Int32} {n : Nat} {k : Prop} (h : vp_in i n) (H : k) : p_ix i n k := ⟨h, H⟩
theorem q_t {c x y : Prop} (h : c) (H : x) : p_if c x y := ⟨fun _ => H, fun q => absurd h q⟩
theorem q_f {c x y : Prop} (h : ¬ c) (H : y) : p_if c x y := ⟨fun q => absurd q h, fun _ => H⟩
theorem q_bd {β : Type} {e : β} {k : β → Prop} (h : k e) : p_bd e k := h
theorem q_sR {G : gS} {a j r : Nat} {k : gS → Prop} (h : k (gSt G a j r)) : p_sR G a j r k := h
end Words
/-- what may change while a list is read -/
def RF2 (ad : Nat → Nat) (b : Nat) : Prop := b = ad 70 ∨ Bk ad 72 77 b ∨ Bk ad 126 142 b
section ReadM
variable {G : gS} {ad : Nat → Nat} {M : mS} {T : Nat → Nat} {tl : Nat}
/-- what the reading of a list comes to -/
def RES (ad' : Nat → Nat) (T : Nat → Nat) (tl : Nat) (e3 : Int32) (M' : mS) (v : Int32) : Prop := v = zn (tcE T tl) ∧ (tcE T tl ≠ 0 → mI M' (ad' 70) 3 = zn (tcL T tl)) ∧ (tcE T tl = 0 → mI M' (ad' 70) 3 = e3 ∧ mPb ad' M' 126 (sgP (rdS T tl)) (yd_n (sgY (rdS T tl))) (fun i => an_r (yd_a (sgY (rdS T tl)) i)) ∧ (∀ q, q < 4096 → mI M' (ad' 134) q = zn (yd_c (sgY (rdS T tl)) q)) ∧ (∀ i, i < yd_n (sgY (rdS T tl)) → mI M' (ad' 131) i = zn (an_x (yd_a (sgY (rdS T tl)) i)) ∧ mI M' (ad' 132) i = zn (an_y (yd_a (sgY (rdS T tl)) i)) ∧ mI M' (ad' 133) i = zn (an_s (yd_a (sgY (rdS T tl)) i))) ∧ VI (rdS T tl) ∧ BB (rdS T tl) ∧ off (pg_T (sgP (rdS T tl))) (pg_o (sgP (rdS T tl))) ≤ 400 ∧ YI (sgY (rdS T tl)))
theorem RP_zero {ad' : Nat → Nat} {M' : mS} (h0 : ∀ i, i = 0 ∨ i = 3 ∨ i = 4 ∨ i = 11 → mI M' (ad' 126) i = 0) (h : ∀ k, 126 < k → k < 138 → mI M' (ad' k) = fun _ => 0) : RP ad' M' aP0 aY0 0 := by
  have e : ∀ k, 126 < k → k < 138 → ∀ i, mI M' (ad' k) i = 0 := fun k h1 h2 i => by rw [h k h1 h2]
  refine ⟨⟨h0 0 (by decide), h0 3 (by decide), h0 11 (by decide), h0 4 (by decide)⟩, ⟨fun r hr => absurd hr (Nat.not_lt_zero r), fun r _ _ => e 127 (by decide) (by decide) r, fun r hr => absurd hr (Nat.not_lt_zero r)⟩, ⟨fun i hi => absurd hi (Nat.not_lt_zero i), fun i _ _ => ⟨e 130 (by decide) (by decide) i, e 131 (by decide) (by decide) i, e 132 (by decide) (by decide) i, e 133 (by decide) (by decide) i⟩⟩, fun q _ => e 134 (by decide) (by decide) q, fun k hk => absurd hk (Nat.not_lt_zero k), fun k _ _ => ⟨e 136 (by decide) (by decide) k, e 137 (by decide) (by decide) k⟩⟩
/-- the reading itself, with the plan at its place -/
theorem m_readQ (hA : Inj ad) (hS : Sh G ad) (hq : gP G (ad 70) 12 = some (ad 126)) (hL : LSh G ad 126) (htl : tl ≤ 2000) (hT : ∀ k, k < tl → T k < 256) {M1 : mS} (hc : mT ad M1 T tl) (hz : ∀ k, 126 ≤ k → k < 142 → mI M1 (ad k) = fun _ => 0) {post : gS → mS → Int32 → Prop} (H : ∀ M' v, Fr (RF2 ad) M1 M' → (∀ i, i ≠ 3 → i ≠ 9 → i ≠ 10 → mI M' (ad 70) i = mI M1 (ad 70) i) → RES ad T tl (mI M1 (ad 70) 3) M' v → post G M' v) : p_cl (m_X12_cut G M1 (ad 70)) (fun M2 _ => p_wI M2 (ad 70) 9 (0 : Int32) (fun M5 => p_wI M5 (ad 70) 10 (0 : Int32) (fun M6 => p_cl (m_X12_isPlan G M6 (ad 70)) (fun M7 r8 => (p_if (r8 = 0) (p_rf (gP G (ad 70) 5) (fun q13 => p_ix (mI M7 (ad 70) 9) (gN G q13) (p_wI M7 (ad 70) 3 (mI M7 q13 (Int32.toNatClampNeg (mI M7 (ad 70) 9))) (fun M15 => post G M15 (1 : Int32))))) (p_bd ((mI M7 (ad 70) 9)) (fun x11 => p_wI M7 (ad 70) 9 (0 : Int32) (fun M12 => p_cl (m_X12_read_57 G (ad 70) fu M12 x11) (fun M r => post G M r))))))))) := by
  have hn := nT_le (T := T) (tl := tl)
  refine c_mono (m_cut hA hS htl hT hc) ?_
  rintro M2 _ ⟨k1, F2⟩
  refine q_wI (q_wI ?_)
  generalize hM6 : wI (wI M2 (ad 70) 9 0) (ad 70) 10 0 = M6
  have e6 : ∀ k, k ≠ 70 → mI M6 (ad k) = mI M2 (ad k) := fun k hk => by rw [← hM6, mI_wI, if_neg (ad_ne hA hk), mI_wI, if_neg (ad_ne hA hk)]
  have e67 : ∀ i, i ≠ 9 → i ≠ 10 → mI M6 (ad 70) i = mI M1 (ad 70) i := fun i h1 h2 => by
    rw [← hM6, wI_ne hA (Or.inr h2), wI_ne hA (Or.inr h1), Fr_I hA F2 (by decide)]
  have F6 : Fr (RF2 ad) M1 M6 := by
    rw [← hM6]
    exact Fr_wI (Fr_wI (Fr_mono F2 (fun _ q => Or.inr (Or.inl q))) (Or.inl rfl)) (Or.inl rfl)
  have z6 : ∀ k, 126 ≤ k → k < 142 → mI M6 (ad k) = fun _ => 0 := fun k h1 h2 => by
    rw [e6 k (by omega), Fr_I hA F2 (by omega)]; exact hz k h1 h2
  have g9 : mI M6 (ad 70) 9 = zn 0 := by rw [← hM6, wI_ne hA (Or.inr (by decide)), wI_eq]; rfl
  have g10 : mI M6 (ad 70) 10 = zn 0 := by rw [← hM6, wI_eq]; rfl
  have m6 : MLs ad M6 T tl 0 ([], [], fun _ => 0, []) := by
    refine ⟨⟨⟨⟨?_, fun k hk => ?_⟩, fun j hj => ?_, fun j hj => ?_⟩, ⟨g9, Nat.zero_le _, g10⟩, ⟨?_, fun j hj => absurd hj (Nat.not_lt_zero j)⟩, ⟨?_, fun j hj => absurd hj (Nat.not_lt_zero j)⟩, fun j hj => ?_⟩, ?_, fun k hk => absurd hk (Nat.not_lt_zero k)⟩
    · rw [e67 2 (by decide) (by decide)]; exact hc.1
    · rw [e6 71 (by decide), Fr_I hA F2 (by decide)]; exact hc.2 k hk
    · rw [e6 72 (by decide), e6 73 (by decide)]
      exact ⟨(k1.1 j hj).1, (k1.1 j hj).2.1⟩
    · rw [e6 74 (by decide)]; exact k1.2 j hj
    · rw [z6 126 (by decide) (by decide)]; rfl
    · rw [z6 126 (by decide) (by decide)]; rfl
    · rw [e6 75 (by decide)]; exact (k1.1 j hj).2.2.1
    · rw [z6 126 (by decide) (by decide)]; rfl
  refine c_mono (w_plan hA hS hq hL htl hT 400 fu M6 M6 ([], [], fun _ => 0, []) 0 (by omega) (by decide) ⟨Nat.zero_le _, Nat.zero_le _, Nat.zero_le _⟩ LFr_rf m6) ?_
  rintro M7 v7 ⟨F7, t7, n7⟩
  have G7 : Fr (RF2 ad) M1 M7 := by
    refine Fr_tr F6 (Fr_mono F7.1 (fun b q => ?_))
    rcases q with (q | q | q | q) | q
    · exact Or.inl q
    · exact Or.inr (Or.inl (by rw [q]; exact Bk_in (by decide) (by decide)))
    · exact Or.inr (Or.inr (by rw [q]; exact Bk_in (by decide) (by decide)))
    · exact Or.inr (Or.inr (Bk_sub (by decide) (by decide) q))
    · exact Or.inr (Or.inr (Bk_sub (by decide) (by decide) q))
  have e7 : ∀ i, i ≠ 9 → i ≠ 10 → mI M7 (ad 70) i = mI M1 (ad 70) i := fun i h1 h2 => by rw [F7.2.1 i h1 h2, e67 i h1 h2]
  have tE1 : (rdP T tl).1 = false → tcE T tl = 1 := fun q => by unfold tcE; rw [q]; rfl
  have tL1 : (rdP T tl).1 = false → tcL T tl = tkP T tl (rdP T tl).2 := fun q => by unfold tcL; rw [q]; rfl
  have tE2 : (rdP T tl).1 = true → tcE T tl = sgE (rdS T tl) := fun q => by unfold tcE; rw [q]; rfl
  have tL2 : (rdP T tl).1 = true → tcL T tl = sgL (rdS T tl) := fun q => by unfold tcL; rw [q]; rfl
  cases eP : (pAll T tl 400 0).1
  · obtain ⟨rfl, d', C', O', ro', h7⟩ := n7 eP
    have q9 := h7.2.1.1
    have q5 := h7.2.1.2.1
    refine q_t rfl (q_rf (sh_m5 hS) (q_ix (by rw [q9, sh_mn5 hS]; exact zn_in (by omega) (by decide)) (q_wI (H _ _ ?_ (fun i h1 h2 h3 => ?_) ⟨?_, fun _ => ?_, fun q => ?_⟩))))
    · exact Fr_wI G7 (Or.inl rfl)
    · rw [wI_ne hA (Or.inr h1)]; exact e7 i h2 h3
    · rw [tE1 eP]; rfl
    · rw [wI_eq, q9, zn_nat (show (pAll T tl 400 0).2 < 2147483648 by omega), (h7.1.2.1 _ q5).2, tL1 eP]
      rfl
    · rw [tE1 eP] at q; exact absurd q (by decide)
  · obtain ⟨rfl, hk0, h7⟩ := t7 eP
    obtain ⟨f1, f2, f3⟩ := allS_F (T := T) (tl := tl) 400 0 (([], [], fun _ => 0, []) : aM)
    have f4 := allS_R (T := T) (tl := tl) 400 0 (([], [], fun _ => 0, []) : aM)
    unfold MLs at h7
    rw [f1, f2, f3, f4] at h7
    have h7 : ML ad M7 T tl (pAll T tl 400 0).2 (enT T tl (orL T tl 400 0).flatten) (opT T tl 0 (orL T tl 400 0).flatten) (allR T tl 400 0 (fun _ => 0)) (wL T tl 0 (orL T tl 400 0)) := h7
    have q9 := h7.1.2.1.1
    have q5 := h7.1.2.1.2.1
    refine q_f (by decide) (q_bd (q_wI ?_))
    rw [q9]
    generalize hM12 : wI M7 (ad 70) 9 0 = M12
    have e12 : ∀ k, k ≠ 70 → mI M12 (ad k) = mI M7 (ad k) := fun k hk => by rw [← hM12, mI_wI, if_neg (ad_ne hA hk)]
    have g12 : ∀ i, i ≠ 9 → mI M12 (ad 70) i = mI M7 (ad 70) i := fun i hi => by rw [← hM12, wI_ne hA (Or.inr hi)]
    have s12 : SFr ad M7 M12 := by rw [← hM12]; exact SFr_x hA (Or.inr (Or.inr (Or.inr ⟨rfl, rfl⟩)))
    have h12 := ML_S hA h7 s12 (q := 0) (by rw [← hM12]; exact wI_eq) (Nat.zero_le _)
    have G12 : Fr (RF2 ad) M1 M12 := by rw [← hM12]; exact Fr_wI G7 (Or.inl rfl)
    have hRK := RK_all (T := T) (tl := tl) 400 0 (fun _ => 0) eP (fun i => ⟨(by decide : (0 : Nat) < 15), fun q => absurd q (show ¬ (0 : Nat) = 1 by decide), fun q => absurd q (show ¬ (0 : Nat) = 2 by decide)⟩)
    have hE : EV G ad T tl (allR T tl 400 0 (fun _ => 0)) := ⟨hA, hS, hq, hL, htl, hT, fun j => by have := (hRK j).1; omega, fun i => (hRK i).2.1, fun i => (hRK i).2.2⟩
    have hR0 : RP ad M12 aP0 aY0 0 := by
      refine RP_zero (fun i hi => ?_) (fun k h1 h2 => ?_)
      · rw [e12 126 (by decide), F7.2.2 i (by omega) (by omega) (by omega), z6 126 (by decide) (by decide)]
      · rw [e12 k (by omega), F7.1.1 (ad k) (fun q => ?_), z6 k (by omega) (by omega)]
        rcases q with (q | q | q | q) | q
        · exact absurd (hA _ _ q) (by omega)
        · exact absurd (hA _ _ q) (by omega)
        · exact absurd (hA _ _ q) (by omega)
        · exact Bk_out hA (by omega) q
        · exact Bk_out hA (by omega) q
    have hC0 : CL ad T tl (enT T tl (orL T tl 400 0).flatten) (opT T tl 0 (orL T tl 400 0).flatten) (allR T tl 400 0 (fun _ => 0)) (wL T tl 0 (orL T tl 400 0)) M12 M12 0 0 aS0 := ⟨h12, hR0, ⟨SFr_rf, fun _ _ => rfl⟩, ⟨rfl, fun i hi => absurd hi (Nat.not_lt_zero i)⟩, ⟨rfl, fun i hi => absurd hi (Nat.not_lt_zero i)⟩⟩
    have hfu : fu = (99999 - (pAll T tl 400 0).2 + 1) + ((pAll T tl 400 0).2 - 0) := by unfold fu; omega
    have sF : ∀ {M' : mS}, SFr ad M12 M' → Fr (RF2 ad) M1 M' := fun {M'} q => by
      refine Fr_tr G12 (Fr_mono q.1 (fun b r => ?_))
      rcases r with r | r | r
      · exact Or.inl r
      · exact Or.inr (Or.inl (by rw [r]; exact Bk_in (by decide) (by decide)))
      · exact Or.inr (Or.inr (Bk_sub (by decide) (by decide) r))
    have hol := orL_len (T := T) (tl := tl) 400 0 eP
    rw [hfu]
    refine rd_lines hE q5 400 0 (fun _ => 0) aS0 [] M12 eP rfl (fun _ _ => rfl) (fun _ _ _ => rfl) hC0 rfl ⟨by decide, fun r hr => absurd hr (Nat.not_lt_zero r), by decide, by decide⟩ VI_0 ⟨rfl, fun k hk => absurd hk (Nat.not_lt_zero k), fun L hL2 => absurd hL2 List.not_mem_nil, by decide⟩ (fun e0 M3 sf c3 v3 w3 t3 => ?_) (fun e0 M3 hf => ?_)
    · rw [List.nil_append] at t3
      have hol2 : (orL T tl 400 0).length ≤ 20 := by rw [t3.1]; exact v3.2.2.1
      refine c_mono (rd_end hE q5 (by omega) (orL_kO 400 0) hol2 c3 t3) ?_
      rintro M4 v ⟨rfl, F4, hmP⟩
      have k4 : ∀ b, b ≠ 140 → mI M4 (ad b) = mI M3 (ad b) := fun b hb => F4.1 _ (fun q => ad_ne hA hb q)
      have e0' : tcE T tl = 0 := (tE2 eP).trans e0
      refine H M4 0 (Fr_tr (sF sf) (Fr_mono F4 (fun b q => Or.inr (Or.inr (by rw [q]; exact Bk_in (by decide) (by decide)))))) (fun i h1 h2 h3 => ?_) ⟨by rw [e0']; rfl, fun q => absurd e0' q, fun _ => ⟨?_, hmP, ?_, ?_, w3, v3, Nat.le_trans t3.2.2.2 (by omega), YI_all 400 0 aS0 eP BB_0 YI_0⟩⟩
      · rw [k4 70 (by decide), sf.2.1 i h2, g12 i h2]; exact e7 i h2 h3
      · rw [k4 70 (by decide), sf.2.1 3 (by decide), g12 3 (by decide)]; exact e7 3 (by decide) (by decide)
      · rw [k4 134 (by decide)]; exact c3.2.1.2.2.2.1
      · intro i hi
        obtain ⟨x1, x2, x3, x4⟩ := c3.2.1.2.2.1.1 i hi
        rw [k4 131 (by decide), k4 132 (by decide), k4 133 (by decide)]
        exact ⟨x2, x3, x4⟩
    · obtain ⟨M4, f4', rfl⟩ := hf
      have e0' : tcE T tl ≠ 0 := fun q => e0 ((tE2 eP).symm.trans q)
      refine H _ _ (Fr_wI (sF f4') (Or.inl rfl)) (fun i h1 h2 h3 => ?_) ⟨by rw [tE2 eP]; rfl, fun _ => ?_, fun q => absurd q e0'⟩
      · rw [wI_ne hA (Or.inr h1), f4'.2.1 i h2, g12 i h2]; exact e7 i h2 h3
      · rw [wI_eq, tL2 eP]; rfl
end ReadM
