/-! the reference's second pass: tests get what their ants were found to be -/
section OpenR
variable {G : gS} {ad : Nat → Nat} {T : Nat → Nat} {tl : Nat}
theorem enc_cM {M : mS} {o : sO} (hA : ¬ isA o.1 = true) (h3 : o.1 = 3 → kdT T tl o.2 = 3) (h5 : o.1 = 3 ∨ isA o.1 = true ∨ opc o.1 = 2 ∨ 5 ≤ opc o.1) : enc (cM ad M T tl o) = enc (aC T tl o) := by
  unfold enc aC cM
  show (if opc o.1 = 2 ∨ 5 ≤ opc o.1 then _ else _) = (if opc o.1 = 2 ∨ 5 ≤ opc o.1 then _ else _)
  by_cases g : opc o.1 = 2 ∨ 5 ≤ opc o.1
  · rw [if_pos g, if_pos g]
  · rw [if_neg g, if_neg g]
    have e3 : o.1 = 3 := by
      rcases h5 with h | h | h
      · exact h
      · exact absurd h hA
      · exact absurd h g
    have hn := num_ok (h3 e3)
    rw [if_neg hA, if_pos (Or.inl e3), if_pos e3, hn.1, i64_32 (by omega)]
theorem enc_A {o : aO} (hA : isA o.1 = true) : enc o = [zn (mc o.1), o.2] := by
  unfold enc
  unfold isA at hA
  rw [Bool.or_eq_true, decide_eq_true_iff, decide_eq_true_iff] at hA
  rw [if_neg (by omega)]
theorem enc_cl {M : mS} {o : sO} : (enc (cM ad M T tl o)).length = (enc (aC T tl o)).length := by
  unfold enc
  show (if opc o.1 = 2 ∨ 5 ≤ opc o.1 then [zn (mc o.1)] else [zn (mc o.1), (cM ad M T tl o).2]).length = (if opc o.1 = 2 ∨ 5 ≤ opc o.1 then [zn (mc o.1)] else [zn (mc o.1), (aC T tl o).2]).length
  split <;> rfl
theorem encL_cl {M : mS} : ∀ L : List sO, (encL (L.map (cM ad M T tl))).length = (enT T tl L).length := by
  intro L
  induction L with
  | nil => rfl
  | cons o L ih =>
    show (enc (cM ad M T tl o) ++ encL (L.map (cM ad M T tl))).length = (enc (aC T tl o) ++ enT T tl L).length
    rw [List.length_append, List.length_append, ih, enc_cl]
theorem cM_c {M M' : mS} (h : mI M' (ad 76) = mI M (ad 76)) : cM ad M' T tl = cM ad M T tl := by
  funext o
  unfold cM
  rw [h]
theorem rd_open (hA : Inj ad) (hS : Sh G ad) (hq : gP G (ad 70) 12 = some (ad 126)) (hL : LSh G ad 126) : ∀ (L : List sO) (b v n f : Nat) (M : mS), n ≤ 400 → n = v + (opT T tl b L).length → mI M (ad 126) 21 = zn n → (∀ i, i < (opT T tl b L).length → mI M (ad 141) (v + i) = zn ((opT T tl b L).getD i 0)) → (∀ i, i < (enT T tl L).length → mI M (ad 140) (b + i) = (enT T tl L).getD i 0) → b + (enT T tl L).length ≤ 800 → (∀ o ∈ L, isA o.1 = true → o.2 < 401) → kO (kdT T tl) L → n - v < f → p_cl (m_X12_read_111 G (ad 70) f M (zn v)) (fun M' r => r = 0 ∧ Fr (fun q => q = ad 140) M M' ∧ (∀ i, i < b → mI M' (ad 140) i = mI M (ad 140) i) ∧ ∀ i, i < (encL (L.map (cM ad M T tl))).length → mI M' (ad 140) (b + i) = (encL (L.map (cM ad M T tl))).getD i 0) := by
  intro L
  induction L with
  | nil =>
    intro b v n f M hn hv h21 hO hC hb h401 hk hf
    have hv : n = v + 0 := hv
    obtain ⟨f, rfl⟩ : ∃ g, f = g + 1 := ⟨f - 1, by omega⟩
    rw [m_X12_read_111]
    refine c_rf hq ?_
    rw [h21]
    exact c_t (by rw [zn_le (by omega) (by omega)]; omega) (c_some ⟨rfl, Fr_rf, fun _ _ => rfl, fun i hi => absurd hi (Nat.not_lt_zero i)⟩)
  | cons o L ih =>
    intro b v n f M hn hv h21 hO hC hb h401 hk hf
    have eE : enT T tl (o :: L) = enc (aC T tl o) ++ enT T tl L := rfl
    have eO : opT T tl b (o :: L) = (if isA o.1 then [b + 1] else []) ++ opT T tl (b + (enc (aC T tl o)).length) L := rfl
    have eK : ∀ M : mS, encL ((o :: L).map (cM ad M T tl)) = enc (cM ad M T tl o) ++ encL (L.map (cM ad M T tl)) := fun _ => rfl
    rw [eE, List.length_append] at hb
    have hk1 := hk o List.mem_cons_self
    by_cases hA1 : isA o.1 = true
    · rw [if_pos hA1] at eO
      have eO : opT T tl b (o :: L) = (b + 1) :: opT T tl (b + (enc (aC T tl o)).length) L := eO
      have e2 : enc (aC T tl o) = [zn (mc o.1), zn o.2] := by
        rw [enc_A (o := aC T tl o) hA1]
        have : ¬ o.1 = 3 := fun e => by rw [e] at hA1; exact absurd hA1 (by decide)
        show [zn (mc o.1), (if o.1 = 3 then zn (numT T tl o.2) else zn o.2)] = _
        rw [if_neg this]
      rw [e2] at eO eE hb
      have hb : b + (2 + (enT T tl L).length) ≤ 800 := hb
      have eO : opT T tl b (o :: L) = (b + 1) :: opT T tl (b + 2) L := eO
      rw [eO] at hv hO
      have hv : n = v + ((opT T tl (b + 2) L).length + 1) := hv
      have h4 := h401 o List.mem_cons_self hA1
      obtain ⟨f, rfl⟩ : ∃ g, f = g + 1 := ⟨f - 1, by omega⟩
      have q141 : mI M (ad (126 + 15)) v = zn (b + 1) := hO 0 (Nat.succ_pos _)
      have q140 : mI M (ad (126 + 14)) (b + 1) = zn o.2 := by
        have := hC 1 (by rw [eE]; exact Nat.succ_lt_succ (Nat.succ_pos _))
        rw [eE] at this
        exact this
      rw [m_X12_read_111]
      refine c_rf hq ?_
      rw [h21]
      refine c_f (by rw [zn_le (by omega) (by omega)]; omega) (c_rf hq (c_rf (l18 hL) (c_rf hq (c_rf (l20 hL) (c_ix (by rw [ln15 hL]; exact zn_in (by omega) (by decide)) (c_rf (sh_m8 hS) (c_rf hq (c_rf (l18 hL) (c_rf hq (c_rf (l20 hL) (c_ix (by rw [ln15 hL]; exact zn_in (by omega) (by decide)) ?_)))))))))))
      rw [zn_nat (show v < 2147483648 by omega), q141, zn_nat (show b + 1 < 2147483648 by omega), q140, zn_nat (show o.2 < 2147483648 by omega)]
      refine c_ix (by rw [ln14 hL]; exact zn_in (by omega) (by decide)) (c_ix (by rw [sh_mn8 hS]; exact zn_in (by omega) (by decide)) (c_ix (by rw [ln14 hL]; exact zn_in (by omega) (by decide)) (c_wI (c_bd ?_))))
      rw [zn_one]
      generalize hM2 : wI M (ad (126 + 14)) (b + 1) (mI M (ad 76) o.2) = M2
      have k2 : ∀ q, q ≠ 140 → mI M2 (ad q) = mI M (ad q) := fun q hq => by rw [← hM2, mI_wI, if_neg (ad_ne hA hq)]
      have k3 : ∀ i, i ≠ b + 1 → mI M2 (ad 140) i = mI M (ad 140) i := fun i hi => by rw [← hM2, wI_ne hA (Or.inr hi)]
      have k4 : mI M2 (ad 140) (b + 1) = mI M (ad 76) o.2 := by rw [← hM2]; exact wI_eq
      have F2 : Fr (fun q => q = ad 140) M M2 := by rw [← hM2]; exact Fr_wI Fr_rf rfl
      have := ih (b + 2) (v + 1) n f M2 hn (by omega) (by rw [k2 126 (by decide)]; exact h21) (fun i hi => ?_) (fun i hi => ?_) (by omega) (fun o' ho' => h401 o' (List.mem_cons_of_mem _ ho')) (fun o' ho' => hk o' (List.mem_cons_of_mem _ ho')) (by omega)
      · refine c_mono this ?_
        rintro M3 r ⟨r0, F3, c1, c2⟩
        rw [cM_c (k2 76 (by decide))] at c2
        refine ⟨r0, Fr_tr F2 F3, fun i hi => ?_, fun i hi => ?_⟩
        · rw [c1 i (by omega), k3 i (by omega)]
        · rw [eK, enc_A (o := cM ad M T tl o) hA1] at hi ⊢
          have em : (cM ad M T tl o).2 = mI M (ad 76) o.2 := by
            unfold cM
            exact if_pos hA1
          have em1 : (cM ad M T tl o).1 = o.1 := rfl
          rw [em, em1]
          match i with
          | 0 =>
            rw [c1 (b + 0) (by omega), k3 (b + 0) (by omega)]
            have := hC 0 (by rw [eE]; exact Nat.succ_pos _)
            rw [eE] at this
            exact this
          | 1 =>
            rw [c1 (b + 1) (by omega), k4]
            rfl
          | i + 2 =>
            have hi : i + 2 < 2 + (encL (L.map (cM ad M T tl))).length := by
              have := hi
              rw [List.length_append] at this
              exact this
            have := c2 i (by omega)
            rw [show b + (i + 2) = b + 2 + i by omega, this]
            rfl
      · have := hO (i + 1) (by show i + 1 < (opT T tl (b + 2) L).length + 1; omega)
        rw [k2 141 (by decide), show v + 1 + i = v + (i + 1) by omega, this]
        rfl
      · have := hC (i + 2) (by rw [eE, List.length_append]; show i + 2 < 2 + (enT T tl L).length; omega)
        rw [k3 (b + 2 + i) (by omega), show b + 2 + i = b + (i + 2) by omega, this, eE]
        rfl
    · rw [if_neg hA1] at eO
      have eO : opT T tl b (o :: L) = opT T tl (b + (enc (aC T tl o)).length) L := eO
      rw [eO] at hv hO
      have := ih (b + (enc (aC T tl o)).length) v n f M hn hv h21 hO (fun i hi => ?_) (by omega) (fun o' ho' => h401 o' (List.mem_cons_of_mem _ ho')) (fun o' ho' => hk o' (List.mem_cons_of_mem _ ho')) hf
      · refine c_mono this ?_
        rintro M3 r ⟨r0, F3, c1, c2⟩
        refine ⟨r0, F3, fun i hi => c1 i (by omega), fun i hi => ?_⟩
        rw [eK, enc_cM hA1 hk1.2.1 hk1.2.2] at hi ⊢
        rw [List.length_append] at hi
        by_cases g : i < (enc (aC T tl o)).length
        · rw [c1 (b + i) (by omega), hC i (by rw [eE, List.length_append]; omega), eE, getD_lt g, getD_lt g]
        · obtain ⟨u, rfl⟩ : ∃ u, i = (enc (aC T tl o)).length + u := ⟨i - (enc (aC T tl o)).length, by omega⟩
          rw [getD_app, ← c2 u (by omega), Nat.add_assoc]
      · have := hC ((enc (aC T tl o)).length + i) (by rw [eE, List.length_append]; omega)
        rw [eE, getD_app] at this
        rw [Nat.add_assoc]
        exact this
end OpenR
