/-! the class learns a list -/
section TeachC
variable {G : gS} {ad : Nat → Nat}
theorem c_cp (hA : Inj ad) {α : Type} {a z i j k N : Nat} {v : Int32} {M : mS} {K : mS → Option (mS × α)} {Q : mS → α → Prop} (hv : v.toNatClampNeg = N ∧ ¬ v < 0) (r1 : gP G (ad z) k = some (ad i)) (r2 : gP G (ad a) k = some (ad j)) (n1 : gN G (ad i) = N) (n2 : gN G (ad j) = N) (H : ∀ M', (∀ b, b < N → mI M' (ad j) b = mI M (ad i) b) → (∀ b, b ≠ j → mI M' (ad b) = mI M (ad b)) → Fr (Bk ad j (j + 1)) M M' → p_cl (K M') Q) : p_cl (o_rf (gP G (ad z) k) (fun q2 => o_rf (gP G (ad a) k) (fun q3 => o_ck (¬ v < 0 ∧ Int32.toNatClampNeg v ≤ gN G q2 ∧ Int32.toNatClampNeg v ≤ gN G q3) (o_wC M q3 (cpy0 (mI M q2) (mI M q3) (Int32.toNatClampNeg v)) K)))) Q := by
  refine c_rf r1 (c_rf r2 (c_ck ⟨hv.2, by rw [hv.1, n1]; exact Nat.le_refl _, by rw [hv.1, n2]; exact Nat.le_refl _⟩ (c_wC (H _ (fun b hb => ?_) (fun b hb => ?_) (Fr_wC Fr_rf (Bk_in (by omega) (by omega)))))))
  · rw [mI_wC, if_pos rfl, hv.1, cpy0_at hb]
  · rw [mI_wC, if_neg (ad_ne hA hb)]
theorem off_le {U : Nat → List aO} {n : Nat} : ∀ k, k < n → off U k + (U k).length ≤ off U n := by
  intro k hk
  have h1 : off U (k + 1) ≤ off U n := off_mono (T := U) (j := k + 1) n (by omega)
  exact h1
theorem c_copyP (hA : Inj ad) (hS : PSh G ad 3) (hZ : PSh G ad 12) {M : mS} {P : aP} (h : cP ad M 12 P) (hr : pg_r P ≤ 5) (hz : ∀ r, r < pg_r P → pg_z P r ≤ 6) (ho : pg_o P ≤ 20) (h4 : off (pg_T P) (pg_o P) ≤ 400) : p_cl (m_X3_copyFrom G M (ad 3) (ad 12)) (fun M' _ => cP ad M' 3 P ∧ Fr (Bk ad 3 (3 + 9)) M M') := by
  obtain ⟨⟨c0, c3, c8⟩, b1, b2, b3, b4⟩ := id h
  obtain ⟨⟨s1, s2, s3, s4, s5, s6, s7, s8⟩, n1, n2, n3, n4, n5, n6, n7, n8⟩ := hS
  obtain ⟨⟨z1, z2, z3, z4, z5, z6, z7, z8⟩, m1, m2, m3, m4, m5, m6, m7, m8⟩ := hZ
  unfold m_X3_copyFrom
  refine c_wI ?_
  generalize hM1 : wI M (ad 3) 0 (mI M (ad 12) 0) = M1
  have e1 : ∀ b, b ≠ 3 → mI M1 (ad b) = mI M (ad b) := fun b hb => by rw [← hM1, mI_wI, if_neg (ad_ne hA hb)]
  have q1 : mI M1 (ad 3) 0 = zn (pg_r P) := by rw [← hM1, wI_eq, c0]
  have F1 : Fr (Bk ad 3 (3 + 9)) M M1 := by rw [← hM1]; exact Fr_wI Fr_rf (Bk_in (by omega) (by omega))
  refine c_cp hA (N := 5) (by decide) z1 s1 m1 n1 (fun M2 g2 e2 f2 => ?_)
  refine c_cp hA (N := 30) (by decide) z2 s2 m2 n2 (fun M3 g3 e3 f3 => ?_)
  refine c_wI ?_
  generalize hM4 : wI M3 (ad 3) 3 (mI M3 (ad 12) 3) = M4
  have e4 : ∀ b, b ≠ 3 → mI M4 (ad b) = mI M3 (ad b) := fun b hb => by rw [← hM4, mI_wI, if_neg (ad_ne hA hb)]
  have q4 : mI M4 (ad 3) 3 = zn (pg_o P) := by rw [← hM4, wI_eq, e3 12 (by decide), e2 12 (by decide), e1 12 (by decide), c3]
  have q41 : mI M4 (ad 3) 0 = zn (pg_r P) := by rw [← hM4, wI_ne hA (Or.inr (by decide)), e3 3 (by decide), e2 3 (by decide), q1]
  have F4 : Fr (Bk ad 3 (3 + 9)) M M4 := by rw [← hM4]; exact Fr_wI (Fr_tr F1 (Fr_tr (Fr_sub f2 (by decide) (by decide)) (Fr_sub f3 (by decide) (by decide)))) (Bk_in (by omega) (by omega))
  refine c_cp hA (N := 20) (by decide) z3 s3 m3 n3 (fun M5 g5 e5 f5 => ?_)
  refine c_cp hA (N := 20) (by decide) z4 s4 m4 n4 (fun M6 g6 e6 f6 => ?_)
  refine c_cp hA (N := 20) (by decide) z5 s5 m5 n5 (fun M7 g7 e7 f7 => ?_)
  refine c_cp hA (N := 20) (by decide) z6 s6 m6 n6 (fun M8 g8 e8 f8 => ?_)
  refine c_wI ?_
  generalize hM9 : wI M8 (ad 3) 8 (mI M8 (ad 12) 8) = M9
  have e9 : ∀ b, b ≠ 3 → mI M9 (ad b) = mI M8 (ad b) := fun b hb => by rw [← hM9, mI_wI, if_neg (ad_ne hA hb)]
  have q9 : mI M9 (ad 3) 8 = zn (off (pg_T P) (pg_o P)) := by rw [← hM9, wI_eq, e8 12 (by decide), e7 12 (by decide), e6 12 (by decide), e5 12 (by decide), e4 12 (by decide), e3 12 (by decide), e2 12 (by decide), e1 12 (by decide), c8]
  have q90 : mI M9 (ad 3) 0 = zn (pg_r P) := by rw [← hM9, wI_ne hA (Or.inr (by decide)), e8 3 (by decide), e7 3 (by decide), e6 3 (by decide), e5 3 (by decide), q41]
  have q93 : mI M9 (ad 3) 3 = zn (pg_o P) := by rw [← hM9, wI_ne hA (Or.inr (by decide)), e8 3 (by decide), e7 3 (by decide), e6 3 (by decide), e5 3 (by decide), q4]
  have F9 : Fr (Bk ad 3 (3 + 9)) M M9 := by rw [← hM9]; exact Fr_wI (Fr_tr F4 (Fr_tr (Fr_sub f5 (by decide) (by decide)) (Fr_tr (Fr_sub f6 (by decide) (by decide)) (Fr_tr (Fr_sub f7 (by decide) (by decide)) (Fr_sub f8 (by decide) (by decide)))))) (Bk_in (by omega) (by omega))
  refine c_cp hA (N := 400) (by decide) z7 s7 m7 n7 (fun M10 g10 e10 f10 => ?_)
  refine c_cp hA (N := 400) (by decide) z8 s8 m8 n8 (fun M11 g11 e11 f11 => ?_)
  refine c_some ⟨⟨⟨?_, ?_, ?_⟩, fun r hr2 => ?_, fun r hr2 j hj => ?_, fun k hk => ⟨?_, ?_, ?_, ?_⟩, fun k hk j hj => ?_⟩, Fr_tr F9 (Fr_tr (Fr_sub f10 (by decide) (by decide)) (Fr_sub f11 (by decide) (by decide)))⟩
  · rw [e11 3 (by decide), e10 3 (by decide), q90]
  · rw [e11 3 (by decide), e10 3 (by decide), q93]
  · rw [e11 3 (by decide), e10 3 (by decide), q9]
  · rw [e11 4 (by decide), e10 4 (by decide), e9 4 (by decide), e8 4 (by decide), e7 4 (by decide), e6 4 (by decide), e5 4 (by decide), e4 4 (by decide), e3 4 (by decide), g2 r (by omega), e1 13 (by decide)]
    exact b1 r hr2
  · have h6 := hz r hr2
    rw [e11 5 (by decide), e10 5 (by decide), e9 5 (by decide), e8 5 (by decide), e7 5 (by decide), e6 5 (by decide), e5 5 (by decide), e4 5 (by decide), g3 (6 * r + j) (by omega), e2 14 (by decide), e1 14 (by decide)]
    exact b2 r hr2 j hj
  · rw [e11 6 (by decide), e10 6 (by decide), e9 6 (by decide), e8 6 (by decide), e7 6 (by decide), e6 6 (by decide), g5 k (by omega), e4 15 (by decide), e3 15 (by decide), e2 15 (by decide), e1 15 (by decide)]
    exact (b3 k hk).1
  · rw [e11 7 (by decide), e10 7 (by decide), e9 7 (by decide), e8 7 (by decide), e7 7 (by decide), g6 k (by omega), e5 16 (by decide), e4 16 (by decide), e3 16 (by decide), e2 16 (by decide), e1 16 (by decide)]
    exact (b3 k hk).2.1
  · rw [e11 8 (by decide), e10 8 (by decide), e9 8 (by decide), e8 8 (by decide), g7 k (by omega), e6 17 (by decide), e5 17 (by decide), e4 17 (by decide), e3 17 (by decide), e2 17 (by decide), e1 17 (by decide)]
    exact (b3 k hk).2.2.1
  · rw [e11 9 (by decide), e10 9 (by decide), e9 9 (by decide), g8 k (by omega), e7 18 (by decide), e6 18 (by decide), e5 18 (by decide), e4 18 (by decide), e3 18 (by decide), e2 18 (by decide), e1 18 (by decide)]
    exact (b3 k hk).2.2.2
  · have hl := off_le (U := pg_T P) (n := pg_o P) k hk
    have h5 := b4 k hk j hj
    refine ⟨?_, ?_⟩
    · rw [e11 10 (by decide), g10 _ (by omega), e9 19 (by decide), e8 19 (by decide), e7 19 (by decide), e6 19 (by decide), e5 19 (by decide), e4 19 (by decide), e3 19 (by decide), e2 19 (by decide), e1 19 (by decide)]
      exact h5.1
    · rw [g11 _ (by omega), e10 20 (by decide), e9 20 (by decide), e8 20 (by decide), e7 20 (by decide), e6 20 (by decide), e5 20 (by decide), e4 20 (by decide), e3 20 (by decide), e2 20 (by decide), e1 20 (by decide)]
      exact h5.2
end TeachC
