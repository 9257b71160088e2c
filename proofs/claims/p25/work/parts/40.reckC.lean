/-! the class's reckoner -/
def RSh (G : gS) (ad : Nat → Nat) (k : Nat) : Prop := gP G (ad k) 0 = some (ad (k + 1)) ∧ gN G (ad (k + 1)) = 64
def RS (ad : Nat → Nat) (M : mS) (k : Nat) (s : List Int32) : Prop := mI M (ad k) 1 = zn s.length ∧ ∀ j, j < s.length → mI M (ad (k + 1)) (s.length - 1 - j) = s.getD j 0
section ReckSpecs
variable {G : gS} {ad : Nat → Nat} {M : mS} {y k : Nat} {Y : aY} {s : List Int32}
theorem RS_Fr (hA : Inj ad) {lo hi : Nat} {M' : mS} (h : RS ad M k s) (hF : Fr (Bk ad lo hi) M M') (hd : k + 1 < lo ∨ hi ≤ k) : RS ad M' k s := by
  unfold RS
  rw [Fr_I hA hF (k := k) (by omega), Fr_I hA hF (k := k + 1) (by omega)]
  exact h
theorem c_push (hA : Inj ad) (hS : RSh G ad k) (h : RS ad M k s) (hl : s.length < 64) {v : Int32} : p_cl (m_X4_push G M (ad k) v) (fun M' _ => RS ad M' k (v :: s) ∧ Fr (Bk ad k (k + 2)) M M') := by
  have n1 : ad (k + 1) ≠ ad k := ad_ne hA (by omega)
  have n2 : ad k ≠ ad (k + 1) := ad_ne hA (by omega)
  unfold m_X4_push
  rw [h.1]
  refine c_f (by rw [show (64 : Int32) = zn 64 from rfl, zn_le (by omega) (by omega)]; omega) (c_rf hS.1 (c_ix (by rw [hS.2]; exact zn_in hl (by decide)) (c_wI (c_wI (c_some ⟨⟨?_, ?_⟩, ?_⟩)))))
  · rw [zn_nat (by omega)]
    simp only [mI_wI, n1, n2, reduceIte, upd_at, h.1, zn_one]
    rfl
  · intro j hj
    rw [zn_nat (by omega)]
    simp only [mI_wI, n1, n2, reduceIte, upd_at]
    have hj2 : j < s.length + 1 := hj
    match j, hj2 with
    | 0, _ => rw [if_pos (by show s.length + 1 - 1 - 0 = s.length; omega)]; rfl
    | j + 1, hj2 =>
      rw [if_neg (by show ¬ (s.length + 1 - 1 - (j + 1) = s.length); omega)]
      show mI M (ad (k + 1)) (s.length + 1 - 1 - (j + 1)) = s.getD j 0
      rw [show s.length + 1 - 1 - (j + 1) = s.length - 1 - j by omega]
      exact h.2 j (by omega)
  · exact Fr_wI (Fr_wI Fr_rf (Bk_in (by omega) (by omega))) (Bk_in (by omega) (by omega))
theorem c_pop (hA : Inj ad) (hS : RSh G ad k) {v : Int32} (h : RS ad M k (v :: s)) (hl : s.length < 64) : p_cl (m_X4_pop G M (ad k)) (fun M' r => r = v ∧ RS ad M' k s ∧ Fr (Bk ad k (k + 2)) M M') := by
  have n1 : ad (k + 1) ≠ ad k := ad_ne hA (by omega)
  have h1 : mI M (ad k) 1 = zn (s.length + 1) := h.1
  unfold m_X4_pop
  rw [h1]
  refine c_t (by rw [show (0 : Int32) = zn 0 from rfl, zn_lt (by omega) (by omega)]; omega) (c_wI (c_rf hS.1 ?_))
  have e : mI (wI M (ad k) 1 (zn (s.length + 1) - 1)) (ad k) 1 = zn s.length := by
    rw [mI_wI, if_pos rfl, upd_at, if_pos rfl]
    exact zn_sub (a := s.length + 1) (b := 1) (by omega)
  rw [e, hS.2, zn_nat (by omega)]
  refine c_ix (zn_in hl (by decide)) (c_some ⟨?_, ⟨?_, fun j hj => ?_⟩, ?_⟩)
  · rw [mI_wI, if_neg n1]
    have := h.2 0 (Nat.succ_pos _)
    exact this
  · exact e
  · rw [mI_wI, if_neg n1]
    have := h.2 (j + 1) (Nat.succ_lt_succ hj)
    rw [show (v :: s).length - 1 - (j + 1) = s.length - 1 - j by show s.length + 1 - 1 - (j + 1) = _; omega] at this
    exact this
  · exact Fr_wI Fr_rf (Bk_in (by omega) (by omega))
theorem zn_lit0 {a : Nat} (h : a < 64) : ¬ ((64 : Int32) ≤ zn a) := by rw [show (64 : Int32) = zn 64 from rfl, zn_le (by omega) (by omega)]; omega
/-- what of an ant is pushed -/
theorem c_ofAnt (hA : Inj ad) (hS : YSh G ad y) {b : Nat} (hv : vY b Y) (hb : b < 1000000000) (hc : cY ad M y Y) {q i : Nat} (hq : q = 222 ∨ q = 223 ∨ q = 224 ∨ q = 226 ∨ q = 227) (hi : i < yd_n Y) : p_cl (m_X4_ofAnt G M (zn q) (zn i) (ad y)) (fun M' r => r = pv Y q (zn i) ∧ cY ad M' y Y ∧ Fr (Bk ad (y + 5) (y + 17)) M M') := by
  have hn := hv.2.1
  have hin : vp_in (zn i) (gN G (ad (y + 4))) := by rw [hS.2.2.2.2.2.2.2.2.1]; exact zn_in (by omega) (by decide)
  have hci := hc.2.2 i hi
  have e2 : (zn i).toNatClampNeg = i := zn_nat (by omega)
  have hr : gP G (ad (y + 4)) (zn i).toNatClampNeg = some (ad (y + 5 + 2 * i)) := by rw [e2]; exact hS.2.2.2.2.1 i (by omega)
  unfold m_X4_ofAnt
  rcases hq with rfl | rfl | rfl | rfl | rfl
  · refine c_t rfl (c_rf hS.2.2.2.1 (c_ix hin (c_rf hr (c_some ⟨?_, hc, Fr_rf⟩))))
    rw [hci.1.2.1]
    show _ = zn (an_x (yd_a Y (zn i).toNatClampNeg))
    rw [e2]
  · refine c_f (by decide) (c_t rfl (c_rf hS.2.2.2.1 (c_ix hin (c_rf hr (c_some ⟨?_, hc, Fr_rf⟩)))))
    rw [hci.1.2.2.1]
    show _ = zn (an_y (yd_a Y (zn i).toNatClampNeg))
    rw [e2]
  · refine c_f (by decide) (c_f (by decide) (c_t rfl (c_rf hS.2.2.2.1 (c_ix hin (c_rf hr (c_clm (cA_per hA (hS.2.2.2.2.2.2.2.2.2 i (by omega)) hci (hv.2.2 i hi).1 (by have := (hv.2.2 i hi).2; omega)) ?_))))))
    rintro M1 r ⟨rfl, -, h1, h2⟩
    refine c_some ⟨?_, cY_ant0 hA hn hi hc h1 h2, Fr_sub h2 (by omega) (by omega)⟩
    show _ = zn (anP (yd_a Y (zn i).toNatClampNeg))
    rw [e2]
    rfl
  · refine c_f (by decide) (c_f (by decide) (c_f (by decide) (c_f (by decide) (c_t rfl ?_))))
    rw [c_meets hS hv hc hi]
    refine c_cl (c_some ?_)
    have e3 : pv Y 226 (zn i) = if meB (yd_a Y) (yd_n Y) i then 1 else 0 := by
      show (if meB (yd_a Y) (yd_n Y) (zn i).toNatClampNeg then (1 : Int32) else 0) = _
      rw [e2]
    rw [e3]
    cases meB (yd_a Y) (yd_n Y) i with
    | true => exact c_f (by decide) (c_some ⟨rfl, hc, Fr_rf⟩)
    | false => exact c_t (by decide) (c_some ⟨rfl, hc, Fr_rf⟩)
  · refine c_f (by decide) (c_f (by decide) (c_f (by decide) (c_f (by decide) (c_f (by decide) (c_t rfl (c_rf hS.2.2.2.1 (c_ix hin (c_rf hr ?_))))))))
    rw [hci.1.2.2.2.2.1]
    have e3 : pv Y 227 (zn i) = zn (1 - an_w (yd_a Y i)) := by
      show zn (1 - an_w (yd_a Y (zn i).toNatClampNeg)) = _
      rw [e2]
    rw [e3]
    have hw := (hv.2.2 i hi).1.2.2.2.2.1
    rcases (show an_w (yd_a Y i) = 0 ∨ an_w (yd_a Y i) = 1 by omega) with e | e <;> rw [e]
    · exact c_t rfl (c_some ⟨rfl, hc, Fr_rf⟩)
    · exact c_f (by decide) (c_some ⟨rfl, hc, Fr_rf⟩)
theorem c_ofTwo {q : Nat} {x z : Int32} (hq : q = 42 ∨ q = 43 ∨ q = 45 ∨ q = 47 ∨ q = 231 ∨ q = 232 ∨ q = 60 ∨ q = 61 ∨ q = 62 ∨ q = 128 ∨ q = 129 ∨ q = 229 ∨ q = 230) : m_X4_ofTwo G M (zn q) x z = some (M, bv q x z) := by
  have nlt : ∀ {u w : Int32}, ¬ u ≤ w ↔ w < u := fun {u w} => Int32.not_le
  have nle : ∀ {u w : Int32}, ¬ u < w ↔ w ≤ u := fun {u w} => Int32.not_lt
  unfold m_X4_ofTwo
  rcases hq with rfl | rfl | rfl | rfl | rfl | rfl | rfl | rfl | rfl | rfl | rfl | rfl | rfl
  · rfl
  · rfl
  · rfl
  · show (if z = 0 then some (M, (0 : Int32)) else o_ck (¬ z = 0) (some (M, x / z))) = some (M, if z = 0 then 0 else x / z)
    by_cases h : z = 0
    · rw [if_pos h, if_pos h]
    · rw [if_neg h, if_neg h]
      unfold o_ck
      rw [if_pos h]
  · rfl
  · rfl
  · show (if z ≤ x then some (M, (0 : Int32)) else some (M, 1)) = some (M, if x < z then 1 else 0)
    by_cases h : x < z
    · rw [if_neg (nlt.mpr h), if_pos h]
    · rw [if_pos (nle.mp h), if_neg h]
  · show (if x = z then some (M, (1 : Int32)) else some (M, 0)) = some (M, if x = z then 1 else 0)
    split <;> rfl
  · show (if x ≤ z then some (M, (0 : Int32)) else some (M, 1)) = some (M, if z < x then 1 else 0)
    by_cases h : z < x
    · rw [if_neg (nlt.mpr h), if_pos h]
    · rw [if_pos (nle.mp h), if_neg h]
  · show (if z < x then some (M, (0 : Int32)) else some (M, 1)) = some (M, if x ≤ z then 1 else 0)
    by_cases h : x ≤ z
    · rw [if_neg (nle.mpr h), if_pos h]
    · rw [if_pos (nlt.mp h), if_neg h]
  · show (if x < z then some (M, (0 : Int32)) else some (M, 1)) = some (M, if z ≤ x then 1 else 0)
    by_cases h : z ≤ x
    · rw [if_neg (nle.mpr h), if_pos h]
    · rw [if_pos (nlt.mp h), if_neg h]
  · rfl
  · rfl
theorem c_reckon (hA : Inj ad) (hS : YSh G ad y) (hR : RSh G ad k) (hyk : y + 17 ≤ k ∨ k + 2 ≤ y) {b : Nat} (hv : vY b Y) (hb : b < 1000000000) (hc : cY ad M y Y) (hs : RS ad M k s) {q : Nat} {v : Int32} {st st' : List Bool} (ht : ty1 (yd_n Y) (q, v) st = some st') (ho : sOk st s) (hst : st.length ≤ 64) : p_cl (m_X4_reckon G M (ad k) (zn q) v (ad y)) (fun M' _ => RS ad M' k (ev1 Y (q, v) s) ∧ cY ad M' y Y ∧ Fr (fun a => Bk ad (y + 5) (y + 17) a ∨ Bk ad k (k + 2) a) M M') := by
  have hlen := sOk_len ho
  have hn := hv.2.1
  have F1 : ∀ {M M' : mS}, Fr (Bk ad k (k + 2)) M M' → Fr (fun a => Bk ad (y + 5) (y + 17) a ∨ Bk ad k (k + 2) a) M M' := fun h => Fr_mono h (fun _ => Or.inr)
  have F2 : ∀ {M M' : mS}, Fr (Bk ad (y + 5) (y + 17)) M M' → Fr (fun a => Bk ad (y + 5) (y + 17) a ∨ Bk ad k (k + 2) a) M M' := fun h => Fr_mono h (fun _ => Or.inl)
  have keep : ∀ {M M' : mS}, cY ad M y Y → Fr (Bk ad k (k + 2)) M M' → cY ad M' y Y := fun h hF => cY_Fr hA h hn hF (by omega)
  have push1 : ∀ (x : Int32) (M : mS), cY ad M y Y → RS ad M k s → s.length < 64 → p_cl (o_cl (m_X4_push G M (ad k) x) (fun M2 _ => some (M2, ()))) (fun M' _ => RS ad M' k (x :: s) ∧ cY ad M' y Y ∧ Fr (fun a => Bk ad (y + 5) (y + 17) a ∨ Bk ad k (k + 2) a) M M') := by
    intro x M hc hs hl
    refine c_clm (c_push hA hR hs hl) ?_
    rintro M2 _ ⟨h1, h2⟩
    exact c_some ⟨h1, keep hc h2, F1 h2⟩
  have ant : ∀ (hq : q = 222 ∨ q = 223 ∨ q = 224 ∨ q = 226 ∨ q = 227), s.length < 64 → ¬ v < 0 → v.toNatClampNeg < yd_n Y → p_cl (o_cl (m_X8_hasAnt G M (ad y) v) (fun M24 r25 => (if r25 = 0 then m_X4_reckon_195 G (ad k) (zn q) v (ad y) M24 ((0 : Int32)) else o_cl (m_X4_ofAnt G M24 (zn q) v (ad y)) (fun M28 r29 => m_X4_reckon_195 G (ad k) (zn q) v (ad y) M28 r29)))) (fun M' _ => RS ad M' k (pv Y q v :: s) ∧ cY ad M' y Y ∧ Fr (fun a => Bk ad (y + 5) (y + 17) a ∨ Bk ad k (k + 2) a) M M') := by
    intro hq hl h1 h2
    obtain ⟨i, hi, rfl⟩ := I32_nat h1
    rw [zn_nat hi] at h2
    rw [c_hasAnt hn hc.2.1, if_neg (by rintro (h | h); exact h1 h; exact absurd ((zn_le (by omega) (by omega)).mp h) (by omega))]
    refine c_cl (c_some (c_f (by decide) (c_clm (c_ofAnt hA hS hv hb hc hq h2) ?_)))
    rintro M1 r ⟨rfl, g1, g2⟩
    unfold m_X4_reckon_195
    refine c_mono (push1 _ M1 g1 (RS_Fr hA hs g2 (by omega)) hl) ?_
    rintro M2 _ ⟨e1, e2, e3⟩
    exact ⟨e1, e2, Fr_tr (F2 g2) e3⟩
  have two : ∀ (hq : q = 42 ∨ q = 43 ∨ q = 45 ∨ q = 47 ∨ q = 231 ∨ q = 232 ∨ q = 60 ∨ q = 61 ∨ q = 62 ∨ q = 128 ∨ q = 129 ∨ q = 229 ∨ q = 230) (x z : Int32) (t : List Int32), s = x :: z :: t → p_cl (o_cl (m_X4_pop G M (ad k)) (fun M78 r79 => o_cl (m_X4_pop G M78 (ad k)) (fun M81 r82 => o_cl (m_X4_ofTwo G M81 (zn q) r82 r79) (fun M84 r85 => o_cl (m_X4_push G M84 (ad k) r85) (fun M87 r88 => some (M87, ())))))) (fun M' _ => RS ad M' k (bv q z x :: t) ∧ cY ad M' y Y ∧ Fr (fun a => Bk ad (y + 5) (y + 17) a ∨ Bk ad k (k + 2) a) M M') := by
    intro hq x z t hs2
    subst hs2
    have hl2 : t.length + 1 + 1 ≤ 64 := by rw [← hlen] at hst; exact hst
    refine c_clm (c_pop hA hR hs (by show t.length + 1 < 64; omega)) ?_
    rintro M1 r ⟨rfl, g1, g2⟩
    refine c_clm (c_pop hA hR g1 (by omega)) ?_
    rintro M2 r ⟨rfl, g3, g4⟩
    rw [c_ofTwo hq]
    refine c_cl (c_some (c_clm (c_push hA hR g3 (by omega)) ?_))
    rintro M3 _ ⟨g5, g6⟩
    exact c_some ⟨g5, keep (keep (keep hc g2) g4) g6, F1 (Fr_tr g2 (Fr_tr g4 g6))⟩
  unfold m_X4_reckon ev1
  dsimp only
  rcases ty1_cases ht with ⟨h1, h2, h3, -⟩ | ⟨h1, h2, h3, -⟩ | ⟨h1, h2, h3, -⟩ | ⟨h1, r, rfl, -⟩ | ⟨h1, r, rfl, -⟩ | ⟨h1, r, rfl, -⟩ | ⟨h1, r, rfl, -⟩ | ⟨h1, r, rfl, -⟩
  · rw [if_pos (show opc q ≤ 4 by omega)]
    have hk : q = 3 ∨ q = 220 ∨ q = 221 := by have := opc_ge (k := q) (by omega); omega
    have hl : s.length < 64 := by omega
    rcases hk with rfl | rfl | rfl
    · exact c_t rfl (push1 _ M hc hs hl)
    · refine c_f (by decide) (c_f (by decide) (c_t rfl ?_))
      rw [hc.2.1.2.1]
      exact push1 _ M hc hs hl
    · refine c_f (by decide) (c_f (by decide) (c_f (by decide) (c_t rfl ?_)))
      rw [c_dark hS hc.1]
      exact c_cl (c_some (push1 _ M hc hs hl))
  · rw [if_pos (show opc q ≤ 4 by omega)]
    have hk : q = 222 ∨ q = 223 ∨ q = 224 := by have := opc_ge (k := q) (by omega); omega
    have hl : s.length < 64 := by omega
    rcases hk with rfl | rfl | rfl
    · exact c_f (by decide) (c_f (by decide) (c_f (by decide) (c_f (by decide) (c_t rfl (ant (by decide) hl h3.1 h3.2)))))
    · exact c_f (by decide) (c_f (by decide) (c_f (by decide) (c_f (by decide) (c_f (by decide) (c_t rfl (ant (by decide) hl h3.1 h3.2))))))
    · exact c_f (by decide) (c_f (by decide) (c_f (by decide) (c_f (by decide) (c_f (by decide) (c_f (by decide) (c_t rfl (ant (by decide) hl h3.1 h3.2)))))))
  · rw [if_pos (show opc q ≤ 4 by omega)]
    have hk : q = 226 ∨ q = 227 := by have := opc_ge (k := q) (by omega); omega
    have hl : s.length < 64 := by omega
    rcases hk with rfl | rfl
    · exact c_f (by decide) (c_f (by decide) (c_f (by decide) (c_f (by decide) (c_f (by decide) (c_f (by decide) (c_f (by decide) (c_f (by decide) (c_t rfl (ant (by decide) hl h3.1 h3.2)))))))))
    · exact c_f (by decide) (c_f (by decide) (c_f (by decide) (c_f (by decide) (c_f (by decide) (c_f (by decide) (c_f (by decide) (c_f (by decide) (c_f (by decide) (c_t rfl (ant (by decide) hl h3.1 h3.2))))))))))
  · obtain ⟨x, t, rfl, q1, q2⟩ := sOk1 ho
    rw [if_neg (show ¬ opc q ≤ 4 by omega), if_pos (show opc q ≤ 6 by omega)]
    have hk : q = 4 ∨ q = 225 := by have := opc_ge (k := q) (by omega); omega
    have hl : t.length < 64 := by have : t.length + 1 ≤ 64 := by rw [← hlen] at hst; exact hst
                                  omega
    rcases hk with rfl | rfl
    · refine c_f (by decide) (c_t rfl (c_clm (c_pop hA hR hs hl) ?_))
      rintro M1 r ⟨rfl, g1, g2⟩
      refine c_clm (c_push hA hR g1 hl) ?_
      rintro M2 _ ⟨g3, g4⟩
      exact c_some ⟨g3, keep (keep hc g2) g4, F1 (Fr_tr g2 g4)⟩
    · refine c_f (by decide) (c_f (by decide) (c_f (by decide) (c_f (by decide) (c_f (by decide) (c_f (by decide) (c_f (by decide) (c_t rfl (c_clm (c_pop hA hR hs hl) ?_))))))))
      rintro M1 r ⟨rfl, g1, g2⟩
      rw [c_inRow hS (keep hc g2).1]
      refine c_cl (c_some (c_clm (c_push hA hR g1 hl) ?_))
      rintro M2 _ ⟨g3, g4⟩
      exact c_some ⟨g3, keep (keep hc g2) g4, F1 (Fr_tr g2 g4)⟩
  · obtain ⟨x, t, rfl, q1, q2⟩ := sOk1 ho
    rw [if_neg (show ¬ opc q ≤ 4 by omega), if_pos (show opc q ≤ 6 by omega)]
    have hk : q = 228 := by have := opc_ge (k := q) (by omega); omega
    have hl : t.length < 64 := by have : t.length + 1 ≤ 64 := by rw [← hlen] at hst; exact hst
                                  omega
    subst hk
    refine c_f (by decide) (c_f (by decide) (c_f (by decide) (c_f (by decide) (c_f (by decide) (c_f (by decide) (c_f (by decide) (c_f (by decide) (c_f (by decide) (c_f (by decide) (c_t rfl (c_clm (c_pop hA hR hs hl) ?_)))))))))))
    rintro M1 r ⟨rfl, g1, g2⟩
    have fin : ∀ z : Int32, z = uv Y 228 r → p_cl (m_X4_reckon_170 G (ad k) (zn 228) v (ad y) M1 z) (fun M' _ => RS ad M' k (uv Y 228 r :: t) ∧ cY ad M' y Y ∧ Fr (fun a => Bk ad (y + 5) (y + 17) a ∨ Bk ad k (k + 2) a) M M') := by
      rintro z rfl
      unfold m_X4_reckon_170
      refine c_clm (c_push hA hR g1 hl) ?_
      rintro M2 _ ⟨g3, g4⟩
      exact c_some ⟨g3, keep (keep hc g2) g4, F1 (Fr_tr g2 g4)⟩
    have e : uv Y 228 r = if r = 0 then 1 else 0 := rfl
    refine c_if (fun z => ?_) (fun z => ?_)
    · exact fin 1 (by rw [e, if_pos z])
    · exact fin 0 (by rw [e, if_neg z])
  · obtain ⟨x, t, rfl, q1, q2⟩ := sOk1 ho
    obtain ⟨z, t, rfl, q3, q4⟩ := sOk1 q2
    rw [if_neg (show ¬ opc q ≤ 4 by omega), if_neg (show ¬ opc q ≤ 6 by omega)]
    have hk : q = 42 ∨ q = 43 ∨ q = 45 ∨ q = 47 ∨ q = 231 ∨ q = 232 := by have := opc_ge (k := q) (by omega); omega
    have := two (by omega) x z t rfl
    rcases hk with rfl | rfl | rfl | rfl | rfl | rfl <;> exact c_f (by decide) (c_f (by decide) (c_f (by decide) (c_f (by decide) (c_f (by decide) (c_f (by decide) (c_f (by decide) (c_f (by decide) (c_f (by decide) (c_f (by decide) (c_f (by decide) this))))))))))
  · obtain ⟨x, t, rfl, q1, q2⟩ := sOk1 ho
    obtain ⟨z, t, rfl, q3, q4⟩ := sOk1 q2
    rw [if_neg (show ¬ opc q ≤ 4 by omega), if_neg (show ¬ opc q ≤ 6 by omega)]
    have hk : q = 60 ∨ q = 61 ∨ q = 62 ∨ q = 128 ∨ q = 129 := by have := opc_ge (k := q) (by omega); omega
    have := two (by omega) x z t rfl
    rcases hk with rfl | rfl | rfl | rfl | rfl <;> exact c_f (by decide) (c_f (by decide) (c_f (by decide) (c_f (by decide) (c_f (by decide) (c_f (by decide) (c_f (by decide) (c_f (by decide) (c_f (by decide) (c_f (by decide) (c_f (by decide) this))))))))))
  · obtain ⟨x, t, rfl, q1, q2⟩ := sOk1 ho
    obtain ⟨z, t, rfl, q3, q4⟩ := sOk1 q2
    rw [if_neg (show ¬ opc q ≤ 4 by omega), if_neg (show ¬ opc q ≤ 6 by omega)]
    have hk : q = 229 ∨ q = 230 := by have := opc_ge (k := q) (by omega); omega
    have := two (by omega) x z t rfl
    rcases hk with rfl | rfl <;> exact c_f (by decide) (c_f (by decide) (c_f (by decide) (c_f (by decide) (c_f (by decide) (c_f (by decide) (c_f (by decide) (c_f (by decide) (c_f (by decide) (c_f (by decide) (c_f (by decide) this))))))))))
end ReckSpecs
