/-! the class's words are packed -/
def pwB (i : Nat) : Nat := (kw.flatMap (fun w => w ++ [32])).getD i 0
/-- the word that is read, and what is packed of it, ahead of a sign -/
def pwS : Nat → Nat × Nat
  | 0 => (0, 0)
  | i + 1 => if pwB i = 32 then ((pwS i).1 + 1, 0) else ((pwS i).1, (pwS i).2 * 37 + cv (pwB i))
theorem pw_ch : ∀ i, i < 167 → (Int32.toUInt32 ((sB 34 i) &&& (255 : Int32)) % 65536).toInt32 = zn (pwB i) ∧ pwB i < 256 ∧ (Int32.toUInt32 (zn (pwB i)) % 65536).toInt32 = zn (pwB i) := by decide +kernel
theorem pw_sp : ∀ i, i < 167 → pwB i = 32 → (pwS i).1 < 33 ∧ (pwS i).2 = pk (kwB (pwS i).1) := by decide +kernel
theorem pw_le : ∀ i, i < 167 → pwB i ≠ 32 → lwB (pwB i) = true := by decide +kernel
theorem pw_w : ∀ i, i < 168 → (pwS i).1 ≤ 33 := by decide +kernel
theorem pw_end : (pwS 167).1 = 33 := by decide +kernel
section PackW
variable {G : gS} {M : mS}
theorem p_charAt {i : Nat} (hi : i < 167) : m_J0_charAt_5068e G M 34 (zn i) = some (M, zn (pwB i)) := by
  obtain ⟨h1, h2, h3⟩ := pw_ch i hi
  refine cl_eq ?_
  unfold m_J0_charAt_5068e m_J0_isLatin1_aae02
  refine c_cl (c_f (by decide) (c_t rfl (c_ck (Or.inr rfl) (c_some (c_f (by decide) ?_)))))
  unfold m_J1_charAt_3b067 m_J0_checkIndex_df160 m_J3_checkIndex_8e157
  refine c_cl (c_cl (c_cl (c_f (zn_nn (by omega)) (c_t ?_ (c_some (c_some ?_))))))
  · rw [show Int32.ofNat (sN 34) = zn 167 from rfl, zn_lt (by omega) (by decide)]
    exact hi
  · rw [zn_nat (show i < 2147483648 by omega), h1]
    exact c_ix (zn_in (n := sN 34) hi (by decide)) (c_ck h3 (c_some (c_ck h3 (c_some ⟨rfl, rfl⟩))))
theorem p_length : m_J0_length_8abf5 G M 34 = some (M, zn 167) := by
  refine cl_eq ?_
  unfold m_J0_length_8abf5 m_J0_coder_7d493
  exact c_cl (c_f (by decide) (c_ck (by decide) (c_some (c_some ⟨rfl, by decide⟩))))
theorem pw_loop {a0 q : Nat} (hw : gP G a0 1 = some q) (hn : gN G q = 33) : ∀ (d i f : Nat) (M : mS), i + d = 167 → d < f → (∀ w, w < (pwS i).1 → mJ M q w = wdJ w) → p_cl (m_X7_packWords_7 G a0 f M (zn (pwS i).1) (Int64.ofNat (pwS i).2) (zn i)) (fun M' _ => mI M' = mI M ∧ (∀ b, b ≠ q → mJ M' b = mJ M b) ∧ ∀ w, w < 33 → mJ M' q w = wdJ w) := by
  intro d
  induction d with
  | zero =>
    intro i f M hi hf h
    obtain ⟨f, rfl⟩ : ∃ g, f = g + 1 := ⟨f - 1, by omega⟩
    have e : i = 167 := by omega
    subst e
    rw [m_X7_packWords_7, p_length]
    refine c_cl (c_some (c_t (by decide) (c_some ⟨rfl, fun _ _ => rfl, fun w hw2 => h w ?_⟩)))
    rw [pw_end]
    exact hw2
  | succ d ih =>
    intro i f M hi hf h
    obtain ⟨f, rfl⟩ : ∃ g, f = g + 1 := ⟨f - 1, by omega⟩
    have hi2 : i < 167 := by omega
    have hb := (pw_ch i hi2).2.1
    have hww := pw_w i (by omega)
    rw [m_X7_packWords_7, p_length]
    refine c_cl (c_some (c_f (by rw [zn_le (by decide) (by omega)]; omega) ?_))
    rw [p_charAt hi2]
    refine c_cl (c_some ?_)
    by_cases g : pwB i = 32
    · obtain ⟨s1, s2⟩ := pw_sp i hi2 g
      refine c_t (by rw [g]; rfl) (c_f (by rw [show (33 : Int32) = zn 33 from rfl, zn_le (by decide) (by omega)]; omega) (c_rf hw (c_ix (by rw [hn]; exact zn_in s1 (by decide)) (c_wJ (c_bd ?_)))))
      unfold m_X7_packWords_61
      refine c_bd ?_
      have e1 : pwS (i + 1) = ((pwS i).1 + 1, 0) := if_pos g
      rw [zn_one, zn_one, zn_nat (show (pwS i).1 < 2147483648 by omega)]
      have := ih (i + 1) f (wJ M q (pwS i).1 (Int64.ofNat (pwS i).2)) (by omega) (by omega) (fun w hw2 => ?_)
      · rw [e1] at this
        refine c_mono this ?_
        rintro M' _ ⟨a1, a2, a3⟩
        refine ⟨a1, fun b hb2 => ?_, a3⟩
        rw [a2 b hb2, mJ_wJ, if_neg hb2]
      · rw [e1] at hw2
        have hw2 : w < (pwS i).1 + 1 := hw2
        rw [mJ_wJ, if_pos rfl]
        show (if w = (pwS i).1 then Int64.ofNat (pwS i).2 else mJ M q w) = wdJ w
        by_cases e : w = (pwS i).1
        · rw [if_pos e, s2, e]
          rfl
        · rw [if_neg e]
          exact h w (by omega)
    · refine c_f (fun q2 => g ?_) ?_
      · rw [show (32 : Int32) = zn 32 from rfl, zn_inj (by omega) (by decide)] at q2
        exact q2
      rw [c_addSign (pw_le i hi2 g) hb]
      refine c_cl (c_some ?_)
      unfold m_X7_packWords_61
      refine c_bd ?_
      have e1 : pwS (i + 1) = ((pwS i).1, (pwS i).2 * 37 + cv (pwB i)) := if_neg g
      rw [zn_one]
      have := ih (i + 1) f M (by omega) (by omega) (fun w hw2 => h w (by rw [e1] at hw2; exact hw2))
      rw [e1] at this
      exact this
theorem p_words {a0 q : Nat} (hw : gP G a0 1 = some q) (hn : gN G q = 33) : ∃ M', m_X7_packWords G M a0 = some (M', ()) ∧ mI M' = mI M ∧ (∀ b, b ≠ q → mJ M' b = mJ M b) ∧ ∀ w, w < 33 → mJ M' q w = wdJ w := by
  obtain ⟨M', r, h1, h2⟩ := pw_loop hw hn 167 0 fu M (by decide) (by decide) (fun w hw2 => absurd hw2 (Nat.not_lt_zero w))
  exact ⟨M', h1, h2⟩
end PackW
