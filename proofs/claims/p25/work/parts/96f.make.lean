/-! texts in the making: the text itself -/
section StrSec2
variable {G : gS} {M : mS} {rl : Nat → Nat} {r a v cap : Nat} {L S : List Nat} {b u : uS}
theorem j_range (v4 : gN G v = cap) (v2 : v ∈ gL G) (lc : L.length ≤ cap) (c6 : cap < 1000000) (by0 : BY M v cap) (tx : ∀ k, k < L.length → mI M v k = zn (L.getD k 0)) {post : gS → mS → Nat → Prop} (hB : uL (1, L.length) b) (hk : ∀ x f, x ∉ gL G → (∀ k, k < L.length → f k = zn (L.getD k 0)) → post (gNw G x 16 L.length) (wC (wZ M x) x f) x) : n_J7_copyOfRange_39247 b G M v (0 : Int32) (zn L.length) post := by
  have hB0 : uL (uP (0, 0) (1, L.length)) b := ⟨Nat.le_trans (Nat.le_of_eq (Nat.zero_add _)) hB.1, Nat.le_trans (Nat.le_of_eq (Nat.zero_add _)) hB.2⟩
  unfold n_J7_copyOfRange_39247 nb_J7_copyOfRange_39247_10
  rw [v4]
  refine i_t rfl (i_if (fun z => ?_) (fun z => ?_))
  · have e : L.length = cap := (zn_inj (by omega) (by omega)).mp z
    unfold q_cn
    rw [v4, ← e]
    refine ⟨fun i hi => ?_, hB0, fun x hx => hk x _ hx tx⟩
    obtain ⟨c, hc1, hc2⟩ := by0 i (by omega)
    rw [hc2]
    exact fits_b c hc1
  · refine ⟨(1, L.length), hB0, ?_⟩
    unfold n_J7_copyOfRangeByte_39247 n_J7_checkLength_df160
    have z0 : zn L.length - (0 : Int32) = zn L.length := zn_sub (b := 0) (Nat.zero_le _)
    have z1 : Int32.ofNat cap - (0 : Int32) = zn cap := zn_sub (a := cap) (b := 0) (Nat.zero_le _)
    refine i_ca0 ⟨Nat.zero_le _, Nat.zero_le _⟩ (i_t (by rw [show (0 : Int32) = zn 0 from rfl, zn_le (by omega) (by omega)]; omega) (i_bd ?_))
    rw [z0]
    refine i_na (N := L.length) rfl (by omega) ⟨Nat.le_of_eq (Nat.zero_add _), Nat.le_of_eq (Nat.zero_add _)⟩ (fun x hx => ?_)
    have nvx : v ≠ x := mem_ne v2 hx
    have gv : gN (gNw G x 16 L.length) v = cap := (up_ne nvx).trans v4
    rw [gv, z1, wZ_ne nvx]
    have hmin : (if zn L.length < zn cap then zn L.length else zn cap) = zn L.length := by
      by_cases e : L.length < cap
      · rw [if_pos ((zn_lt (by omega) (by omega)).mpr e)]
      · rw [if_neg (fun q => e ((zn_lt (by omega) (by omega)).mp q)), show cap = L.length by omega]
    rw [hmin, nat_0, zn_nat (by omega), gN_nw]
    refine ⟨⟨by decide, by decide, zn_nn (by omega), ?_, ?_, fun i hi => ?_⟩, i_wC (hk x _ hx (fun k hk2 => ?_))⟩
    · rw [nat_0, zn_nat (by omega)]; omega
    · rw [nat_0, zn_nat (by omega)]; omega
    · rw [zn_nat (by omega)] at hi
      rw [nat_0, Nat.zero_add, tx i hi]
      obtain ⟨c, hc1, hc2⟩ := by0 i (by omega)
      rw [tx i hi] at hc2
      rw [hc2]
      exact fits_b c hc1
    · rw [cpyv_at, if_pos hk2]
      exact tx k hk2
/-- the text that a builder holds, with roles s and s + 1 -/
theorem j_str (h : TB G M rl r a v cap L) (s : Nat) {post : gS → mS → Nat → Prop} (hB : uL (2, 4 + L.length) b) (hk : ∀ G' M' rl' q w, (∀ r0, Kt r0 G M rl G' M' rl') → PS G' M' rl' s q w L → post G' M' q) : n_J4_toString_0e30d b G M a post := by
  obtain ⟨⟨a1, a2⟩, ⟨v1, v2, v3, v4⟩, c0, l0, lc, c6, by0, tx⟩ := h
  obtain ⟨B1, B2⟩ := hB
  simp only at B1 B2
  unfold n_J4_toString_0e30d
  refine ⟨⟨Nat.le_trans (Nat.le_of_eq (Nat.zero_add _)) (Nat.le_trans (by decide) B1), Nat.le_trans (Nat.le_of_eq (Nat.zero_add _)) (Nat.le_trans (Nat.le_add_right _ _) B2)⟩, fun q hq => ?_⟩
  have naq : a ≠ q := mem_ne a1 hq
  have nvq : v ≠ q := mem_ne v2 hq
  refine ⟨(1, L.length), ⟨Nat.le_trans (Nat.le_of_eq (by show 0 + 1 + 1 = 2; rfl)) B1, Nat.le_trans (Nat.le_of_eq (by show 0 + 4 + L.length = 4 + L.length; omega)) B2⟩, ?_⟩
  have g1 : gP (gNw G q 10 0) a 0 = some v := by rw [show gP (gNw G q 10 0) a = gP G a from up_ne naq]; exact v1
  have g2 : gN (gNw G q 10 0) v = cap := (up_ne nvq).trans v4
  have m1 : mI (wZ M q) a = mI M a := wZ_ne naq
  have m2 : mI (wZ M q) v = mI M v := wZ_ne nvq
  unfold n_J0_init_81219
  refine ⟨(1, L.length), ⟨Nat.le_of_eq (Nat.zero_add _), Nat.le_of_eq (Nat.zero_add _)⟩, ?_⟩
  unfold n_J0_init_db425 n_J5_getValue_6d5f1 n_J4_length_8abf5 n_J5_length_8abf5 n_J5_isLatin1_aae02 nb_J5_isLatin1_aae02_18 nb_J0_init_db425_97
  refine i_ca0 ⟨Nat.zero_le _, Nat.zero_le _⟩ (i_rf g1 (i_ca0 ⟨Nat.zero_le _, Nat.zero_le _⟩ (i_ca0 ⟨Nat.zero_le _, Nat.zero_le _⟩ (i_ca0 ⟨Nat.zero_le _, Nat.zero_le _⟩ (i_f (by decide) (i_t (by rw [m1]; exact c0) (i_ck (Or.inr rfl) (i_f (by decide) (i_ck (by decide) (i_wI ?_))))))))))
  rw [m1, l0]
  have m3 : mI (wI (wZ M q) q 1 0) v = mI M v := by rw [mI_ne nvq]; exact m2
  refine ⟨(1, L.length), ⟨Nat.le_of_eq (Nat.zero_add _), Nat.le_of_eq (Nat.zero_add _)⟩, j_range (L := L) g2 (List.mem_append_left _ v2) lc c6 (fun k hk2 => by rw [m3]; exact by0 k hk2) (fun k hk2 => by rw [m3]; exact tx k hk2) ⟨Nat.le_refl _, Nat.le_refl _⟩ (fun x f hx hf => i_sR ?_)⟩
  have nqx : q ≠ x := mem_ne (gL_nw (G := G) (k := 10) (n := 0)) hx
  have hxG : x ∉ gL G := fun z => hx (List.mem_append_left _ z)
  refine hk _ _ (rU (rU rl q s) x (s + 1)) q x (fun r0 => ?_) ⟨⟨List.mem_append_left _ gL_nw, by rw [rU_ne nqx, rU_eq]⟩, ⟨by rw [gSt_eq, if_pos rfl], gL_nw (k := 16) (n := L.length), rU_eq, gN_nw (k := 16)⟩, ?_, fun k hk2 => ?_⟩
  · exact Kt_stn (Kt_wCn (Kt_tr (Kt_wIn (Kt_nw (k := 10) (n := 0) (s := s) hq) hq) (Kt_nw (k := 16) (n := L.length) (s := s + 1) hx)) hxG) hq
  · rw [mI_wC, if_neg nqx, wZ_ne nqx, mI_eq, if_pos rfl]
  · rw [mI_wC, if_pos rfl]
    exact hf k hk2
end StrSec2
