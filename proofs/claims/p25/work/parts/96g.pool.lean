/-! texts in the making: a made text behind; its length, its places -/
section Pool
variable {G G' : gS} {M M' : mS} {rl rl' : Nat → Nat} {r s a v q w cap : Nat} {L S : List Nat} {b u : uS}
theorem PS_kt (h : PS G M rl s q w S) (k : Kt r G M rl G' M' rl') (h1 : s ≠ r) (h2 : s ≠ r + 1) (h3 : s + 1 ≠ r) : PS G' M' rl' s q w S := by
  obtain ⟨⟨a1, a2⟩, ⟨v1, v2, v3, v4⟩, c0, tx⟩ := h
  obtain ⟨x1, x2, x3, x4, x5⟩ := k q a1
  obtain ⟨y1, y2, y3, y4, y5⟩ := k w v2
  obtain ⟨p1, p2, _⟩ := x5 (by omega) (by omega)
  obtain ⟨q1, q2, _⟩ := y5 (by omega) (by omega)
  exact ⟨⟨x1, x4.trans a2⟩, ⟨by rw [p1]; exact v1, y1, y4.trans v3, y3.trans v4⟩, by rw [p2]; exact c0, fun k hk => by rw [q2]; exact tx k hk⟩
theorem i_coderp {n : Nat} (h0 : mI M n 1 = 0) {post : gS → mS → Int32 → Prop} (H : post G M 0) : n_J0_coder_7d493p b G M n post := by
  unfold n_J0_coder_7d493p nb_J0_coder_7d493p_14
  rw [h0]
  exact i_f (by decide) (i_ck (by decide) H)
theorem j_len (h : PS G M rl s q w S) {post : gS → mS → Int32 → Prop} (H : post G M (zn S.length)) : n_J0_length_8abf5p b G M q post := by
  obtain ⟨⟨a1, a2⟩, ⟨v1, v2, v3, v4⟩, c0, tx⟩ := h
  unfold n_J0_length_8abf5p
  refine i_rf v1 (i_ca0 ⟨Nat.zero_le _, Nat.zero_le _⟩ (i_coderp c0 ?_))
  rw [v4, sh_0.1]
  exact H
theorem j_pool (h : TB G M rl r a v cap L) (hp : PS G M rl s q w S) (hS : asc S) (h1 : s ≠ r) (h2 : s ≠ r + 1) (h3 : s + 1 ≠ r) (hL : L.length + S.length < 100000) (hc : cap < 400000) {post : gS → mS → Nat → Prop} (hB : uL (apC cap (L.length + S.length)) b) (hk : ∀ G' M' rl' v', Kt r G M rl G' M' rl' → TB G' M' rl' r a v' (apN cap (L.length + S.length)) (L ++ S) → post G' M' a) : n_J4_append_15ec4p b G M a q post := by
  unfold n_J4_append_15ec4p
  refine ⟨apC cap (L.length + S.length), ⟨Nat.le_trans (Nat.le_of_eq (Nat.zero_add _)) hB.1, Nat.le_trans (Nat.le_of_eq (Nat.zero_add _)) hB.2⟩, ?_⟩
  unfold n_J5_append_cf1cep
  refine i_ca0 ⟨Nat.zero_le _, Nat.zero_le _⟩ (j_len hp ?_)
  rw [h.2.2.2.1, zn_add]
  refine ⟨apC cap (L.length + S.length), ⟨Nat.le_of_eq (Nat.zero_add _), Nat.le_of_eq (Nat.zero_add _)⟩, j_room h (by omega) hc ⟨Nat.le_refl _, Nat.le_refl _⟩ (fun G1 M1 rl1 v1 k1 h1' => ?_)⟩
  have hu : uL (uP (uP (0, 0) (0, 0)) (apC cap (L.length + S.length))) (apC cap (L.length + S.length)) := ⟨Nat.le_of_eq (Nat.zero_add _), Nat.le_of_eq (Nat.zero_add _)⟩
  have hcap : L.length + S.length ≤ apN cap (L.length + S.length) := by
    unfold apN
    split
    · assumption
    · split <;> omega
  obtain ⟨⟨p1, p2⟩, ⟨p3, p4, p5, p6⟩, p7, p8⟩ := PS_kt hp k1 h1 h2 h3
  obtain ⟨t1, t2⟩ := tb_put h1' hcap p8 hS
  obtain ⟨⟨a1, a2⟩, ⟨w1, w2, w3, w4⟩, c0, l0, lc, c6, by0, tx⟩ := h1'
  refine i_ca0 hu ?_
  unfold n_J5_putStringAt_47b60p n_J5_inflateIfNeededFor_a7421p nb_J5_inflateIfNeededFor_a7421p_21 n_J0_getBytes_840e7p nb_J0_getBytes_840e7p_43
  refine i_ca0 ⟨Nat.zero_le _, Nat.zero_le _⟩ (i_f (by decide) (i_ca0 ⟨Nat.zero_le _, Nat.zero_le _⟩ (i_coderp p7 (i_t c0 (i_rf w1 (i_ca0 ⟨Nat.zero_le _, Nat.zero_le _⟩ (i_ca0 ⟨Nat.zero_le _, Nat.zero_le _⟩ (i_coderp p7 ?_))))))))
  rw [c0, l0, sh_0.2, w4]
  refine i_t rfl (i_rf p3 (i_rf p3 ?_))
  rw [p6, zn_nat (by omega), show (Int32.ofNat S.length).toNatClampNeg = S.length from zn_nat (by omega), nat_0]
  refine ⟨⟨by decide, zn_nn (by omega), zn_nn (by omega), ?_, ?_, fun i hi => ?_⟩, i_wC (i_wI ?_)⟩
  · rw [nat_0, zn_nat (by omega)]; omega
  · rw [zn_nat (by omega), zn_nat (by omega)]; exact hcap
  · rw [zn_nat (by omega)] at hi
    rw [nat_0, Nat.zero_add, p8 i hi]
    exact fits_b _ (hS i hi)
  · have nva : v1 ≠ a := rl_ne (rl := rl1) (by omega)
    have el : mI (wC M1 v1 (va_cpy (mI M1 w) (mI M1 v1) 0 L.length S.length)) a 3 = zn L.length := by
      rw [mI_wC, if_neg (fun e => nva e.symm)]; exact l0
    rw [el, zn_add]
    exact hk _ _ rl1 v1 (Kt_tr k1 t2) t1
/-- a place of a made text -/
theorem chr_ : ∀ c : Nat, c < 128 → (Int32.toUInt32 ((zn c) &&& (255 : Int32)) % 65536).toInt32 = zn c ∧ ((Int32.toUInt32 (zn c)) % 65536).toInt32 = zn c := by decide +kernel
theorem j_chr (h : PS G M rl s q w S) (hS : asc S) (hL : S.length < 100000) {k : Nat} (hk : k < S.length) {post : gS → mS → Int32 → Prop} (H : post G M (zn (S.getD k 0))) : n_J0_charAt_5068ep b G M q (zn k) post := by
  obtain ⟨⟨a1, a2⟩, ⟨v1, v2, v3, v4⟩, c0, tx⟩ := h
  obtain ⟨e1, e2⟩ := chr_ _ (hS k hk)
  unfold n_J0_charAt_5068ep n_J0_isLatin1_aae02p nb_J0_isLatin1_aae02p_18 n_J1_charAt_3b067p n_J0_checkIndex_df160 n_J3_checkIndex_8e157
  refine i_ca0 ⟨Nat.zero_le _, Nat.zero_le _⟩ (i_f (by decide) (i_t c0 (i_ck (Or.inr rfl) (i_f (by decide) (i_rf v1 (i_ca0 ⟨Nat.zero_le _, Nat.zero_le _⟩ (i_ca0 ⟨Nat.zero_le _, Nat.zero_le _⟩ (i_ca0 ⟨Nat.zero_le _, Nat.zero_le _⟩ (i_f (zn_nn (by omega)) ?_)))))))))
  rw [v4]
  refine i_t ((zn_lt (by omega) (by omega)).mpr hk) (i_ix (by rw [v4]; exact zn_in hk (by omega)) ?_)
  rw [zn_nat (by omega), tx k hk, e1]
  exact i_ck (by rw [e2]) (i_ck e2 H)
end Pool
