/-! a new plan -/
def nlf (i : Nat) : Nat := [1, 2, 5, 6, 7, 8, 9, 10, 13, 14, 15, 16, 17, 18, 20].getD i 0
def nln (i : Nat) : Nat := [5, 30, 3, 6, 6, 6, 6, 4096, 20, 20, 20, 21, 21, 800, 400].getD i 0
def nlU (l : Nat) (U : List Nat) : Nat → List Nat
  | 0 => U
  | i + 1 => (l + 1 + i) :: nlU l U i
def nlN (l : Nat) (N : List (Nat × Nat × Nat)) : Nat → List (Nat × Nat × Nat)
  | 0 => N
  | i + 1 => (l + 1 + i, 12, nln i) :: nlN l N i
def nlF (l : Nat) (F : List (Nat × Nat × Nat)) : Nat → List (Nat × Nat × Nat)
  | 0 => F
  | i + 1 => (l, nlf i, l + 1 + i) :: nlF l F i
section Plan
variable {G0 G : gS} {M0 M : mS} {ad : Nat → Nat} {U : List Nat} {N F : List (Nat × Nat × Nat)} {V : Nat → Nat → Int32} {VJ : Nat → Nat → Int64} {l : Nat}
theorem nlU_mem : ∀ (i k : Nat), k ∈ nlU l U i ↔ k ∈ U ∨ (l + 1 ≤ k ∧ k < l + 1 + i) := by
  intro i
  induction i with
  | zero => intro k; exact ⟨fun h => Or.inl h, fun h => h.elim (fun q => q) (fun q => absurd q (by omega))⟩
  | succ i ih =>
    intro k
    show k ∈ (l + 1 + i) :: nlU l U i ↔ _
    rw [List.mem_cons, ih]
    constructor
    · rintro (h | h | h)
      · exact Or.inr (by omega)
      · exact Or.inl h
      · exact Or.inr (by omega)
    · rintro (h | h)
      · exact Or.inr (Or.inl h)
      · by_cases e : k = l + 1 + i
        · exact Or.inl e
        · exact Or.inr (Or.inr (by omega))
theorem nlF_mem : ∀ (n i : Nat), i < n → (l, nlf i, l + 1 + i) ∈ nlF l F n := by
  intro n
  induction n with
  | zero => intro i hi; exact absurd hi (Nat.not_lt_zero i)
  | succ n ih =>
    intro i hi
    show _ ∈ (l, nlf n, l + 1 + n) :: nlF l F n
    by_cases e : i = n
    · rw [e]; exact List.mem_cons_self
    · exact List.mem_cons_of_mem _ (ih i (by omega))
theorem nlN_mem : ∀ (n i : Nat), i < n → (l + 1 + i, 12, nln i) ∈ nlN l N n := by
  intro n
  induction n with
  | zero => intro i hi; exact absurd hi (Nat.not_lt_zero i)
  | succ n ih =>
    intro i hi
    show _ ∈ (l + 1 + n, 12, nln n) :: nlN l N n
    by_cases e : i = n
    · rw [e]; exact List.mem_cons_self
    · exact List.mem_cons_of_mem _ (ih i (by omega))
theorem nlf_inj : ∀ i, i < 15 → ∀ j, j < i → nlf j ≠ nlf i := by decide
theorem nlF_ne (hf : ∀ t ∈ F, t.1 ≠ l) {m : Nat} (hm : m < 15) : ∀ i, i ≤ m → ∀ t ∈ nlF l F i, ¬ (t.1 = l ∧ t.2.1 = nlf m) := by
  intro i
  induction i with
  | zero => intro _ t ht q; exact hf t ht q.1
  | succ i ih =>
    intro hi t ht q
    rcases List.mem_cons.mp ht with e | e
    · rw [e] at q
      exact nlf_inj m hm i (by omega) q.2
    · exact ih (by omega) t e q
theorem n10_st {a0 i : Nat} (hi : i < 15) (h : Bu G0 M0 G M ad (nlU l U i) (nlN l N i) (nlF l F i) V VJ) (hU : l ∈ U) (ha : ad l = a0) (hu : ∀ k ∈ U, ¬ (l + 1 ≤ k ∧ k < l + 16)) (hf : ∀ t ∈ F, t.1 ≠ l) (hV : ∀ k, l + 1 ≤ k → k < l + 16 → V k = (fun _ => 0) ∧ VJ k = fun _ => 0) {q : Nat} (hq : q ∉ gL G) {G2 G4 : gS} {M3 : mS} {n f : Nat} (e2 : G2 = gNw G q 12 n) (hn : n = nln i) (e3 : M3 = wZ M q) (e4 : G4 = gSt G2 a0 f q) (hf2 : f = nlf i) : Bu G0 M0 G4 M3 (adw ad (l + 1 + i) q) (nlU l U (i + 1)) (nlN l N (i + 1)) (nlF l F (i + 1)) V VJ ∧ adw ad (l + 1 + i) q l = a0 ∧ ∀ k, ¬ (l + 1 ≤ k ∧ k < l + 16) → adw ad (l + 1 + i) q k = ad k := by
  have k1 : l + 1 + i ∉ nlU l U i := fun g => by
    rcases (nlU_mem i _).mp g with e | e
    · exact hu _ e (by omega)
    · omega
  have b := Bu_nw h hq k1 (hV _ (by omega) (by omega)).1 (hV _ (by omega) (by omega)).2 (ci := 12) (n := n)
  have a1 : adw ad (l + 1 + i) q l = a0 := (if_neg (by omega)).trans ha
  have a2 : adw ad (l + 1 + i) q (l + 1 + i) = q := if_pos rfl
  have lU : l ∈ nlU l U i := (nlU_mem i l).mpr (Or.inl hU)
  have c := Bu_st b (i := l) (f := f) (j := l + 1 + i) (List.mem_cons_of_mem _ lU) List.mem_cons_self a1 a2 (fun t ht => by rw [hf2]; exact nlF_ne hf hi i (Nat.le_refl _) t ht)
  rw [e4, e2, e3]
  refine ⟨?_, a1, fun k hk => if_neg (by omega)⟩
  rw [hn, hf2] at c ⊢
  exact c
set_option maxHeartbeats 2000000 in
theorem n10 {a0 : Nat} {post : gS → mS → Prop} (h : Bu G0 M0 G M ad U N F V VJ) (hU : l ∈ U) (ha : ad l = a0) (hu : ∀ k ∈ U, ¬ (l + 1 ≤ k ∧ k < l + 16)) (hf : ∀ t ∈ F, t.1 ≠ l) (hV : ∀ k, l + 1 ≤ k → k < l + 16 → V k = (fun _ => 0) ∧ VJ k = fun _ => 0) (H : ∀ (G1 : gS) (M1 : mS) (ad1 : Nat → Nat), (∀ k, ¬ (l + 1 ≤ k ∧ k < l + 16) → ad1 k = ad k) → Bu G0 M0 G1 M1 ad1 (nlU l U 15) (nlN l N 15) (nlF l F 15) V VJ → post G1 M1) : n_X10_init G M a0 post := by
  unfold n_X10_init
  have b : Bu G0 M0 G M ad (nlU l U 0) (nlN l N 0) (nlF l F 0) V VJ := h
  intro q0 hq0 Ga0 ea0 Ma0 em0 Gb0 eb0
  obtain ⟨c0, d0, f0⟩ := n10_st (i := 0) (by decide) b hU ha hu hf hV hq0 ea0 rfl em0 eb0 rfl
  intro q1 hq1 Ga1 ea1 Ma1 em1 Gb1 eb1
  obtain ⟨c1, d1, f1⟩ := n10_st (i := 1) (by decide) c0 hU d0 hu hf hV hq1 ea1 rfl em1 eb1 rfl
  intro q2 hq2 Ga2 ea2 Ma2 em2 Gb2 eb2
  obtain ⟨c2, d2, f2⟩ := n10_st (i := 2) (by decide) c1 hU d1 hu hf hV hq2 ea2 rfl em2 eb2 rfl
  intro q3 hq3 Ga3 ea3 Ma3 em3 Gb3 eb3
  obtain ⟨c3, d3, f3⟩ := n10_st (i := 3) (by decide) c2 hU d2 hu hf hV hq3 ea3 rfl em3 eb3 rfl
  intro q4 hq4 Ga4 ea4 Ma4 em4 Gb4 eb4
  obtain ⟨c4, d4, f4⟩ := n10_st (i := 4) (by decide) c3 hU d3 hu hf hV hq4 ea4 rfl em4 eb4 rfl
  intro q5 hq5 Ga5 ea5 Ma5 em5 Gb5 eb5
  obtain ⟨c5, d5, f5⟩ := n10_st (i := 5) (by decide) c4 hU d4 hu hf hV hq5 ea5 rfl em5 eb5 rfl
  intro q6 hq6 Ga6 ea6 Ma6 em6 Gb6 eb6
  obtain ⟨c6, d6, f6⟩ := n10_st (i := 6) (by decide) c5 hU d5 hu hf hV hq6 ea6 rfl em6 eb6 rfl
  intro q7 hq7 Ga7 ea7 Ma7 em7 Gb7 eb7
  obtain ⟨c7, d7, f7⟩ := n10_st (i := 7) (by decide) c6 hU d6 hu hf hV hq7 ea7 rfl em7 eb7 rfl
  intro q8 hq8 Ga8 ea8 Ma8 em8 Gb8 eb8
  obtain ⟨c8, d8, f8⟩ := n10_st (i := 8) (by decide) c7 hU d7 hu hf hV hq8 ea8 rfl em8 eb8 rfl
  intro q9 hq9 Ga9 ea9 Ma9 em9 Gb9 eb9
  obtain ⟨c9, d9, f9⟩ := n10_st (i := 9) (by decide) c8 hU d8 hu hf hV hq9 ea9 rfl em9 eb9 rfl
  intro q10 hq10 Ga10 ea10 Ma10 em10 Gb10 eb10
  obtain ⟨c10, d10, f10⟩ := n10_st (i := 10) (by decide) c9 hU d9 hu hf hV hq10 ea10 rfl em10 eb10 rfl
  intro q11 hq11 Ga11 ea11 Ma11 em11 Gb11 eb11
  obtain ⟨c11, d11, f11⟩ := n10_st (i := 11) (by decide) c10 hU d10 hu hf hV hq11 ea11 rfl em11 eb11 rfl
  intro q12 hq12 Ga12 ea12 Ma12 em12 Gb12 eb12
  obtain ⟨c12, d12, f12⟩ := n10_st (i := 12) (by decide) c11 hU d11 hu hf hV hq12 ea12 rfl em12 eb12 rfl
  intro q13 hq13 Ga13 ea13 Ma13 em13 Gb13 eb13
  obtain ⟨c13, d13, f13⟩ := n10_st (i := 13) (by decide) c12 hU d12 hu hf hV hq13 ea13 rfl em13 eb13 rfl
  intro q14 hq14 Ga14 ea14 Ma14 em14 Gb14 eb14
  obtain ⟨c14, d14, f14⟩ := n10_st (i := 14) (by decide) c13 hU d13 hu hf hV hq14 ea14 rfl em14 eb14 rfl
  exact H _ _ _ (fun k hk => (f14 k hk).trans ((f13 k hk).trans ((f12 k hk).trans ((f11 k hk).trans ((f10 k hk).trans ((f9 k hk).trans ((f8 k hk).trans ((f7 k hk).trans ((f6 k hk).trans ((f5 k hk).trans ((f4 k hk).trans ((f3 k hk).trans ((f2 k hk).trans ((f1 k hk).trans (f0 k hk))))))))))))))) c14
theorem LSh_of (h : Bu G0 M0 G M ad U N F V VJ) (hK : ∀ i, i < 15 → (l, nlf i, l + 1 + i) ∈ F) (hN : ∀ i, i < 15 → (l + 1 + i, 12, nln i) ∈ N) : LSh G ad l := by
  have p : ∀ i, i < 15 → gP G (ad l) (nlf i) = some (ad (l + 1 + i)) := fun i hi => Bu_P h (hK i hi)
  have n : ∀ i, i < 15 → gN G (ad (l + 1 + i)) = nln i := fun i hi => Bu_N h (hN i hi)
  exact ⟨⟨p 0 (by decide), p 1 (by decide), p 2 (by decide), p 3 (by decide), p 4 (by decide), p 5 (by decide), p 6 (by decide), p 7 (by decide), p 8 (by decide), p 9 (by decide), p 10 (by decide), p 11 (by decide), p 12 (by decide), p 13 (by decide), p 14 (by decide)⟩, n 0 (by decide), n 1 (by decide), n 2 (by decide), n 3 (by decide), n 4 (by decide), n 5 (by decide), n 6 (by decide), n 7 (by decide), n 8 (by decide), n 9 (by decide), n 10 (by decide), n 11 (by decide), n 12 (by decide), n 13 (by decide), n 14 (by decide)⟩
end Plan
