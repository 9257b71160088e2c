/-! the reference's tests are carried out -/
theorem mc_lt : ∀ k : Nat, opc k ≠ 0 → mc k < 60 ∧ mc k ≠ 0 := by
  intro k h
  have := opc_ge h
  rcases (show k = 3 ∨ k = 220 ∨ k = 221 ∨ k = 222 ∨ k = 223 ∨ k = 224 ∨ k = 226 ∨ k = 227 ∨ k = 4 ∨ k = 225 ∨ k = 228 ∨ k = 42 ∨ k = 43 ∨ k = 45 ∨ k = 47 ∨ k = 231 ∨ k = 232 ∨ k = 60 ∨ k = 61 ∨ k = 62 ∨ k = 128 ∨ k = 129 ∨ k = 229 ∨ k = 230 by omega) with rfl | rfl | rfl | rfl | rfl | rfl | rfl | rfl | rfl | rfl | rfl | rfl | rfl | rfl | rfl | rfl | rfl | rfl | rfl | rfl | rfl | rfl | rfl | rfl <;> decide
theorem getD_app {α : Type} {a b : List α} {j : Nat} {d : α} : (a ++ b).getD (a.length + j) d = b.getD j d := by
  simp [List.getD, List.getElem?_append_right (Nat.le_add_right _ _)]
section CodeM
variable {G : gS} {ad : Nat → Nat} {M : mS} {s : Nat} {Y : aY} {c : Nat → Nat}
theorem MS_Fr (hA : Inj ad) {lo hi : Nat} {M' : mS} {S : List Int32} (h : MS ad M s S) (hF : Fr (Bk ad lo hi) M M') (hd : s + 11 < lo ∨ hi ≤ s + 11) : MS ad M' s S := by
  unfold MS
  rw [Fr_I hA hF (by omega)]
  exact h
theorem m_code_loop (hA : Inj ad) (hS : SSh G ad s) (hK : KSh G ad) (hL : LSh G ad 110) (hs : s + 12 ≤ 110) {b : Nat} (hv : vY b Y) (hb : b < 1000000000) (c1 : Int32) : ∀ (L : List aO) (q f : Nat) (M : mS) (st : List Bool) (S : List Int32), q + (encL L).length ≤ 800 → L.length < f → (∀ j, j < (encL L).length → mI M (ad 124) (q + j) = (encL L).getD j 0) → mY ad M s Y → mN ad M (yd_n Y) → MS ad M s S → tyL (yd_n Y) L st = some [true] → sOk st S → st.length ≤ 64 → p_cl (m_X11_carryOut_5 G (ad s) c1 (zn (q + (encL L).length)) f M (zn S.length - 1) (zn q)) (fun M' r => r = (evL Y L S).headD 0 ∧ Fr (Bk ad (s + 11) (s + 12)) M M') := by
  intro L
  induction L with
  | nil =>
    intro q f M st S hq hf hcode hc hN hs2 ht ho hst
    obtain ⟨f, rfl⟩ : ∃ g, f = g + 1 := ⟨f - 1, by omega⟩
    rw [m_X11_carryOut_5]
    refine c_t (Int32.le_refl _) (c_rf (s14 hS) (c_ix (by rw [sn11 hS]; exact zn_in (a := 0) (by decide) (by decide)) (c_some ⟨?_, Fr_rf⟩)))
    cases ht
    obtain ⟨x, t, rfl, q1, q2⟩ := sOk1 ho
    have : t = [] := by
      match t, q2 with
      | [], _ => rfl
    subst this
    exact hs2 0 (Nat.succ_pos _)
  | cons o L ih =>
    intro q f M st S hq hf hcode hc hN hs2 ht ho hst
    obtain ⟨k, v⟩ := o
    obtain ⟨f, rfl⟩ : ∃ g, f = g + 1 := ⟨f - 1, by omega⟩
    obtain ⟨s1, t1, t2⟩ := Option.bind_eq_some_iff.mp ht
    have hlen := sOk_len ho
    have he : encL ((k, v) :: L) = enc (k, v) ++ encL L := rfl
    have hll : ((k, v) :: L).length = L.length + 1 := rfl
    rw [hll] at hf
    rw [he, List.length_append] at hq hcode ⊢
    have hok := ev1_ok (Y := Y) (fun i hi => (hv.2.2 i hi).1.2.2.2.2.1) t1 ho
    have hst1 : s1.length ≤ 64 := by
      rcases ty1_cases t1 with ⟨_, _, h3, rfl⟩ | ⟨_, h3, _, rfl⟩ | ⟨_, h3, _, rfl⟩ | ⟨_, r, rfl, rfl⟩ | ⟨_, r, rfl, rfl⟩ | ⟨_, r, rfl, rfl⟩ | ⟨_, r, rfl, rfl⟩ | ⟨_, r, rfl, rfl⟩
      · exact h3
      · exact h3
      · exact h3
      · exact hst
      · exact hst
      · exact Nat.le_of_succ_le hst
      · exact Nat.le_of_succ_le hst
      · exact Nat.le_of_succ_le hst
    -- on with the rest of the code
    have cont : ∀ (M1 : mS) (S1 : List Int32), S1 = ev1 Y (k, v) S → MS ad M1 s S1 → Fr (Bk ad (s + 11) (s + 12)) M M1 → p_cl (m_X11_carryOut_5 G (ad s) c1 (zn (q + ((enc (k, v)).length + (encL L).length))) f M1 (zn S1.length - 1) (zn (q + (enc (k, v)).length))) (fun M' r => r = (evL Y ((k, v) :: L) S).headD 0 ∧ Fr (Bk ad (s + 11) (s + 12)) M M') := by
      rintro M1 S1 rfl g1 g2
      rw [show q + ((enc (k, v)).length + (encL L).length) = q + (enc (k, v)).length + (encL L).length by omega]
      refine c_mono (ih (q + (enc (k, v)).length) f M1 s1 _ (by omega) (by omega) (fun j hj => ?_) (mY_Fr hA hc g2 (by omega)) ?_ g1 t2 hok hst1) ?_
      · rw [Fr_I hA g2 (by omega)]
        have := hcode ((enc (k, v)).length + j) (by omega)
        rw [← Nat.add_assoc] at this
        rw [this, getD_app]
      · unfold mN
        rw [Fr_I hA g2 (by omega)]
        exact hN
      · rintro M2 r ⟨e1, e2⟩
        exact ⟨e1, Fr_tr g2 e2⟩
    have h0 : mI M (ad 124) q = zn (mc k) := by
      have := hcode 0 (by unfold enc; split <;> (show 0 < _ + _; simp; omega))
      rw [Nat.add_zero] at this
      rw [this]
      unfold enc
      split <;> rfl
    have hq8 : q < 800 := by
      have : 0 < (enc (k, v)).length := by unfold enc; split <;> exact Nat.succ_pos _
      omega
    rw [m_X11_carryOut_5]
    refine c_f (by have : 0 < (enc (k, v)).length := by unfold enc; split <;> exact Nat.succ_pos _
                   rw [zn_le (by omega) (by omega)]; omega) (c_rf (s15 hS) (c_rf hK (c_rf (l18 hL) (c_ix (by rw [ln14 hL]; exact zn_in hq8 (by decide)) (c_bd (c_bd ?_))))))
    rw [zn_nat (show q < 2147483648 by omega), h0, zn_one]
    -- a push, behind the value
    have hslen : ∀ {z : Nat}, z < 64 → (zn z - 1) + 1 = zn z := fun _ => by rw [Int32.sub_add_cancel]
    have push : ∀ (x : Int32) (M1 : mS) (kb : mS → Int32 → Int32 → Option (mS × Int32)) (v4 : Int32) (Q : mS → Int32 → Prop), S.length < 64 → (∀ M2, M2 = wI M1 (ad (s + 11)) S.length x → p_cl (kb M2 (zn S.length) v4) Q) → p_cl (o_ix (zn S.length) (gN G (ad (s + 11))) (o_wI M1 (ad (s + 11)) (Int32.toNatClampNeg (zn S.length)) x (fun M2 => m_X11_carryOut_238 G (ad s) c1 (zn (q + ((enc (k, v)).length + (encL L).length))) kb M2 (zn S.length) v4))) Q := by
      intro x M1 kb v4 Q hl hk
      refine c_ix (by rw [sn11 hS]; exact zn_in (by omega) (by decide)) (c_wI ?_)
      unfold m_X11_carryOut_238
      rw [zn_nat (by omega)]
      exact hk _ rfl
    rcases ty1_cases t1 with ⟨h1, h2, h3, -⟩ | ⟨h1, h2, h3, -⟩ | ⟨h1, h2, h3, -⟩ | ⟨h1, r, rfl, -⟩ | ⟨h1, r, rfl, -⟩ | ⟨h1, r, rfl, -⟩ | ⟨h1, r, rfl, -⟩ | ⟨h1, r, rfl, -⟩
    · have hk : k = 3 ∨ k = 220 ∨ k = 221 := by have := opc_ge (k := k) (by omega); omega
      have hl : S.length < 64 := by omega
      have ev : ev1 Y (k, v) S = pv Y k v :: S := by unfold ev1; rw [if_pos (show opc k ≤ 4 by omega)]
      have zz : ∀ (w : Nat) (x : Int32), (k = 220 ∨ k = 221) → x = pv Y k v → p_cl (m_X11_carryOut_69 G (ad s) c1 (zn (q + ((enc (k, v)).length + (encL L).length))) (fun M v3 v4 => m_X11_carryOut_5 G (ad s) c1 (zn (q + ((enc (k, v)).length + (encL L).length))) f M v3 v4) M (zn S.length) (zn (q + 1)) (ad (s + 11)) (zn S.length) x) (fun M' r => r = (evL Y ((k, v) :: L) S).headD 0 ∧ Fr (Bk ad (s + 11) (s + 12)) M M') := by
        rintro w x hk2 rfl
        unfold m_X11_carryOut_69
        refine push _ _ _ _ _ hl (fun M2 e => ?_)
        subst e
        have := cont (wI M (ad (s + 11)) S.length (pv Y k v)) (pv Y k v :: S) ev.symm (MS_push hA hs2) (Fr_wI Fr_rf (Bk_in (by omega) (by omega)))
        rw [show (pv Y k v :: S).length = S.length + 1 from rfl, zn_top, show (enc (k, v)).length = 1 by rcases hk2 with rfl | rfl <;> rfl] at this
        rw [show (enc (k, v)).length = 1 by rcases hk2 with rfl | rfl <;> rfl]
        exact this
      rcases hk with rfl | rfl | rfl
      · refine c_f (by decide) (c_f (by decide) ?_)
        rw [m_isPushed (by decide)]
        refine c_cl (c_some (c_f (by decide) (c_bd ?_)))
        rw [Int32.sub_add_cancel]
        refine c_rf (s14 hS) (c_rf (s15 hS) (c_rf hK (c_rf (l18 hL) (c_ix (by rw [ln14 hL]; exact zn_in (by have : (enc (3, v)).length = 2 := rfl; omega) (by decide)) ?_))))
        rw [zn_nat (by omega), show mI M (ad (110 + 14)) (q + 1) = v from (hcode 1 (by show 1 < 2 + _; omega))]
        refine c_clm (m_pushed hS hK hv hb hN hc (q := 3) (Or.inl rfl) (fun h => absurd rfl h)) ?_
        rintro M1 r ⟨rfl, hr⟩
        rw [hr]
        refine c_ix (by rw [sn11 hS]; exact zn_in (by omega) (by decide)) (c_wI (c_bd ?_))
        unfold m_X11_carryOut_238
        rw [zn_nat (by omega), zn_one]
        have := cont _ _ ev.symm (MS_push hA hs2) (Fr_wI Fr_rf (Bk_in (by omega) (by omega)))
        rw [show (pv Y 3 v :: S).length = S.length + 1 from rfl, zn_top] at this
        exact this
      · refine c_t rfl ?_
        unfold m_X11_carryOut_43
        refine c_bd (c_rf (s14 hS) (c_t rfl ?_))
        rw [Int32.sub_add_cancel]
        exact zz 0 _ (Or.inl rfl) (by rw [hc.2.1.1]; rfl)
      · refine c_f (by decide) (c_t rfl ?_)
        unfold m_X11_carryOut_43
        refine c_bd (c_rf (s14 hS) (c_f (by decide) ?_))
        rw [Int32.sub_add_cancel, m_dark hS hc.1]
        exact c_cl (c_some (zz 0 _ (Or.inr rfl) rfl))
    · have hk : k = 222 ∨ k = 223 ∨ k = 224 := by have := opc_ge (k := k) (by omega); omega
      have hl : S.length < 64 := by omega
      have ev : ev1 Y (k, v) S = pv Y k v :: S := by unfold ev1; rw [if_pos (show opc k ≤ 4 by omega)]
      have hen : (enc (k, v)).length = 2 := by rcases hk with rfl | rfl | rfl <;> rfl
      have hcv : mI M (ad (110 + 14)) (q + 1) = v := by
        have := hcode 1 (by omega)
        rw [this]
        rcases hk with rfl | rfl | rfl <;> rfl
      have hmc : ¬ zn (mc k) = 20 ∧ ¬ zn (mc k) = 21 ∧ mc k < 900 ∧ (mc k = 42 ∨ mc k = 22 ∨ mc k = 23 ∨ mc k = 24 ∨ mc k = 26 ∨ mc k = 27) := by rcases hk with rfl | rfl | rfl <;> decide
      refine c_f hmc.1 (c_f hmc.2.1 ?_)
      rw [m_isPushed hmc.2.2.1, if_pos hmc.2.2.2]
      refine c_cl (c_some (c_f (by decide) (c_bd ?_)))
      rw [Int32.sub_add_cancel]
      refine c_rf (s14 hS) (c_rf (s15 hS) (c_rf hK (c_rf (l18 hL) (c_ix (by rw [ln14 hL]; exact zn_in (by omega) (by decide)) ?_))))
      rw [zn_nat (by omega), hcv]
      refine c_clm (m_pushed hS hK hv hb hN hc (q := k) (by omega) (fun _ => h3)) ?_
      rintro M1 r ⟨rfl, rfl⟩
      refine c_ix (by rw [sn11 hS]; exact zn_in (by omega) (by decide)) (c_wI (c_bd ?_))
      unfold m_X11_carryOut_238
      rw [zn_nat (by omega), zn_one]
      have := cont _ _ ev.symm (MS_push hA hs2) (Fr_wI Fr_rf (Bk_in (by omega) (by omega)))
      rw [show (pv Y k v :: S).length = S.length + 1 from rfl, zn_top, hen] at this
      rw [hen]
      exact this
    · have hk : k = 226 ∨ k = 227 := by have := opc_ge (k := k) (by omega); omega
      have hl : S.length < 64 := by omega
      have ev : ev1 Y (k, v) S = pv Y k v :: S := by unfold ev1; rw [if_pos (show opc k ≤ 4 by omega)]
      have hen : (enc (k, v)).length = 2 := by rcases hk with rfl | rfl <;> rfl
      have hcv : mI M (ad (110 + 14)) (q + 1) = v := by
        have := hcode 1 (by omega)
        rw [this]
        rcases hk with rfl | rfl <;> rfl
      have hmc : ¬ zn (mc k) = 20 ∧ ¬ zn (mc k) = 21 ∧ mc k < 900 ∧ (mc k = 42 ∨ mc k = 22 ∨ mc k = 23 ∨ mc k = 24 ∨ mc k = 26 ∨ mc k = 27) := by rcases hk with rfl | rfl <;> decide
      refine c_f hmc.1 (c_f hmc.2.1 ?_)
      rw [m_isPushed hmc.2.2.1, if_pos hmc.2.2.2]
      refine c_cl (c_some (c_f (by decide) (c_bd ?_)))
      rw [Int32.sub_add_cancel]
      refine c_rf (s14 hS) (c_rf (s15 hS) (c_rf hK (c_rf (l18 hL) (c_ix (by rw [ln14 hL]; exact zn_in (by omega) (by decide)) ?_))))
      rw [zn_nat (by omega), hcv]
      refine c_clm (m_pushed hS hK hv hb hN hc (q := k) (by omega) (fun _ => h3)) ?_
      rintro M1 r ⟨rfl, rfl⟩
      refine c_ix (by rw [sn11 hS]; exact zn_in (by omega) (by decide)) (c_wI (c_bd ?_))
      unfold m_X11_carryOut_238
      rw [zn_nat (by omega), zn_one]
      have := cont _ _ ev.symm (MS_push hA hs2) (Fr_wI Fr_rf (Bk_in (by omega) (by omega)))
      rw [show (pv Y k v :: S).length = S.length + 1 from rfl, zn_top, hen] at this
      rw [hen]
      exact this
    · obtain ⟨x, t, rfl, q1, q2⟩ := sOk1 ho
      have hk : k = 4 ∨ k = 225 := by have := opc_ge (k := k) (by omega); omega
      have hl : t.length < 64 := by have : t.length + 1 ≤ 64 := by rw [← hlen] at hst; exact hst
                                    omega
      have ev : ev1 Y (k, v) (x :: t) = uv Y k x :: t := by unfold ev1; rw [if_neg (show ¬ opc k ≤ 4 by omega), if_pos (show opc k ≤ 6 by omega)]; rfl
      have hp := MS_pop hs2
      have hen : (enc (k, v)).length = 1 := by rcases hk with rfl | rfl <;> rfl
      have fin : ∀ z : Int32, z = uv Y k x → p_cl (m_X11_carryOut_206 G (ad s) c1 (zn (q + ((enc (k, v)).length + (encL L).length))) (fun M v3 v4 => m_X11_carryOut_5 G (ad s) c1 (zn (q + ((enc (k, v)).length + (encL L).length))) f M v3 v4) M (zn t.length) (zn (q + 1)) (ad (s + 11)) (zn t.length) z) (fun M' r => r = (evL Y ((k, v) :: L) (x :: t)).headD 0 ∧ Fr (Bk ad (s + 11) (s + 12)) M M') := by
        rintro z rfl
        unfold m_X11_carryOut_206
        refine c_ix (by rw [sn11 hS]; exact zn_in (by omega) (by decide)) (c_wI ?_)
        unfold m_X11_carryOut_238
        rw [zn_nat (by omega)]
        have := cont _ _ ev.symm (MS_push hA hp.2) (Fr_wI Fr_rf (Bk_in (by omega) (by omega)))
        rw [show (uv Y k x :: t).length = t.length + 1 from rfl, zn_top, hen] at this
        rw [hen]
        exact this
      rw [show (x :: t).length = t.length + 1 from rfl, zn_top]
      rcases hk with rfl | rfl
      · refine c_f (by decide) (c_f (by decide) ?_)
        rw [m_isPushed (by decide)]
        refine c_cl (c_some (c_t (by decide) (c_t rfl ?_)))
        unfold m_X11_carryOut_136
        refine c_rf (s14 hS) (c_t rfl (c_rf (s14 hS) (c_ix (by rw [sn11 hS]; exact zn_in (by omega) (by decide)) ?_)))
        rw [zn_nat (by omega), hp.1]
        exact fin _ rfl
      · refine c_f (by decide) (c_f (by decide) ?_)
        rw [m_isPushed (by decide)]
        refine c_cl (c_some (c_t (by decide) (c_f (by decide) (c_f (by decide) (c_t rfl ?_)))))
        unfold m_X11_carryOut_136
        refine c_rf (s14 hS) (c_f (by decide) (c_f (by decide) (c_rf (s14 hS) (c_ix (by rw [sn11 hS]; exact zn_in (by omega) (by decide)) ?_))))
        rw [zn_nat (by omega), hp.1, m_isIn63]
        refine c_cl (c_some ?_)
        have eu : uv Y 225 x = if x < 0 ∨ 64 ≤ x then 0 else zn (nz (yd_c Y) (64 * x.toNatClampNeg) 64) := rfl
        by_cases g : x < 0 ∨ 64 ≤ x
        · rw [if_pos g]
          exact c_t rfl (fin 0 (by rw [eu, if_pos g]))
        · rw [if_neg g]
          refine c_f (by decide) (c_rf (s5 hS) (c_rf (s14 hS) (c_ix (by rw [sn11 hS]; exact zn_in (by omega) (by decide)) ?_)))
          rw [hp.1]
          have hx : ¬ x < 0 := fun h => g (Or.inl h)
          obtain ⟨i, hi, rfl⟩ := I32_nat hx
          have hi64 : i < 64 := by
            have h64 : ¬ (64 : Int32) ≤ zn i := fun h => g (Or.inr h)
            rw [show (64 : Int32) = zn 64 from rfl, zn_le (by omega) hi] at h64
            omega
          refine c_ix (by rw [sn2 hS]; exact zn_in hi64 (by decide)) ?_
          refine fin _ ?_
          rw [eu, if_neg g, zn_nat hi, hc.1.2 i hi64]
    · obtain ⟨x, t, rfl, q1, q2⟩ := sOk1 ho
      have hk : k = 228 := by have := opc_ge (k := k) (by omega); omega
      subst hk
      have hl : t.length < 64 := by have : t.length + 1 ≤ 64 := by rw [← hlen] at hst; exact hst
                                    omega
      have ev : ev1 Y (228, v) (x :: t) = uv Y 228 x :: t := rfl
      have hp := MS_pop hs2
      rw [show (x :: t).length = t.length + 1 from rfl, zn_top]
      refine c_f (by decide) (c_f (by decide) ?_)
      rw [m_isPushed (by decide)]
      refine c_cl (c_some (c_t (by decide) (c_f (by decide) (c_t rfl ?_))))
      unfold m_X11_carryOut_136
      refine c_rf (s14 hS) (c_f (by decide) (c_t rfl (c_rf (s14 hS) (c_ix (by rw [sn11 hS]; exact zn_in (by omega) (by decide)) ?_))))
      rw [zn_nat (by omega), hp.1]
      have eu : (1 : Int32) - x = uv Y 228 x := by
        rcases q1 rfl with rfl | rfl <;> rfl
      rw [eu]
      unfold m_X11_carryOut_206
      refine c_ix (by rw [sn11 hS]; exact zn_in (by omega) (by decide)) (c_wI ?_)
      unfold m_X11_carryOut_238
      rw [zn_nat (by omega)]
      have := cont _ _ ev.symm (MS_push hA hp.2) (Fr_wI Fr_rf (Bk_in (by omega) (by omega)))
      rw [show (uv Y 228 x :: t).length = t.length + 1 from rfl, zn_top] at this
      exact this
    all_goals
      obtain ⟨x, t, rfl, q1, q2⟩ := sOk1 ho
      obtain ⟨z, t, rfl, q3, q4⟩ := sOk1 q2
      have hk : k = 42 ∨ k = 43 ∨ k = 45 ∨ k = 47 ∨ k = 231 ∨ k = 232 ∨ k = 60 ∨ k = 61 ∨ k = 62 ∨ k = 128 ∨ k = 129 ∨ k = 229 ∨ k = 230 := by have := opc_ge (k := k) (by omega); omega
      have hl : t.length + 1 < 64 := by have : t.length + 1 + 1 ≤ 64 := by rw [← hlen] at hst; exact hst
                                        omega
      have ev : ev1 Y (k, v) (x :: z :: t) = bv k z x :: t := by unfold ev1; rw [if_neg (show ¬ opc k ≤ 4 by omega), if_neg (show ¬ opc k ≤ 6 by omega)]; rfl
      have hp := MS_pop hs2
      have hp2 := MS_pop hp.2
      have hen : (enc (k, v)).length = 1 := by rcases hk with rfl | rfl | rfl | rfl | rfl | rfl | rfl | rfl | rfl | rfl | rfl | rfl | rfl <;> rfl
      have hmc : ¬ zn (mc k) = 20 ∧ ¬ zn (mc k) = 21 ∧ mc k < 900 ∧ (¬ (mc k = 42 ∨ mc k = 22 ∨ mc k = 23 ∨ mc k = 24 ∨ mc k = 26 ∨ mc k = 27)) ∧ ¬ zn (mc k) = 43 ∧ ¬ zn (mc k) = 28 ∧ ¬ zn (mc k) = 25 := by rcases hk with rfl | rfl | rfl | rfl | rfl | rfl | rfl | rfl | rfl | rfl | rfl | rfl | rfl <;> decide
      refine c_f hmc.1 (c_f hmc.2.1 ?_)
      rw [m_isPushed hmc.2.2.1, if_neg hmc.2.2.2.1]
      refine c_cl (c_some (c_t rfl (c_f hmc.2.2.2.2.1 (c_f hmc.2.2.2.2.2.1 (c_f hmc.2.2.2.2.2.2 (c_bd ?_))))))
      have e1 : zn (x :: z :: t).length - 1 + (-1) = zn t.length := by
        rw [show zn (x :: z :: t).length - 1 = zn (t.length + 1) from zn_top, ← zn_one, Int32.add_assoc]
        exact Int32.add_zero _
      rw [e1]
      refine c_rf (s14 hS) (c_rf (s14 hS) (c_ix (by rw [sn11 hS]; exact zn_in (by omega) (by decide)) (c_rf (s14 hS) ?_)))
      rw [zn_one]
      refine c_ix (by rw [sn11 hS]; exact zn_in (by omega) (by decide)) ?_
      rw [zn_nat (show t.length < 2147483648 by omega), zn_nat (show t.length + 1 < 2147483648 by omega), show mI M (ad (s + 11)) (t.length + 1) = x from hp.1, hp2.1, m_both hk]
      refine c_cl (c_some (c_ix (by rw [sn11 hS]; exact zn_in (by omega) (by decide)) (c_wI ?_)))
      unfold m_X11_carryOut_238
      have := cont _ _ ev.symm (MS_push hA hp2.2) (Fr_wI Fr_rf (Bk_in (by omega) (by omega)))
      rw [show (bv k z x :: t).length = t.length + 1 from rfl, zn_top, hen] at this
      rw [hen]
      exact this
end CodeM
