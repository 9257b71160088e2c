/-! ants: in words of numbers, and the class's own -/
theorem zn_and (a b : Nat) : zn a &&& zn b = zn (a &&& b) := by
  rw [← Int32.toBitVec_inj]
  simp [zn, Int32.toBitVec_and]
theorem zn_and_mod {a : Nat} (k : Nat) : zn a &&& zn (2 ^ k - 1) = zn (a % 2 ^ k) := by rw [zn_and, Nat.and_two_pow_sub_one_eq_mod]
theorem zn_511 (a : Nat) : zn a &&& 511 = zn (a % 512) := zn_and_mod 9
theorem zn_3 (a : Nat) : zn a &&& 3 = zn (a % 4) := zn_and_mod 2
theorem zn_63 (a : Nat) : zn a &&& 63 = zn (a % 64) := zn_and_mod 6
/-- the addresses: one for each index, no two alike -/
abbrev Inj (ad : Nat → Nat) : Prop := ∀ i j, ad i = ad j → i = j
theorem ad_ne {ad : Nat → Nat} (hA : Inj ad) {i j : Nat} (h : i ≠ j) : ad i ≠ ad j := fun e => h (hA i j e)
def Bk (ad : Nat → Nat) (lo hi : Nat) (b : Nat) : Prop := ∃ k, lo ≤ k ∧ k < hi ∧ b = ad k
theorem Bk_in {ad : Nat → Nat} {lo hi k : Nat} (h1 : lo ≤ k) (h2 : k < hi) : Bk ad lo hi (ad k) := ⟨k, h1, h2, rfl⟩
theorem Bk_out {ad : Nat → Nat} (hA : Inj ad) {lo hi k : Nat} (h : k < lo ∨ hi ≤ k) : ¬ Bk ad lo hi (ad k) := by
  rintro ⟨j, h1, h2, e⟩
  have := hA _ _ e
  omega
theorem Bk_sub {ad : Nat → Nat} {lo hi lo' hi' : Nat} (h1 : lo' ≤ lo) (h2 : hi ≤ hi') {b : Nat} (h : Bk ad lo hi b) : Bk ad lo' hi' b := by
  obtain ⟨k, a, b', e⟩ := h
  exact ⟨k, by omega, by omega, e⟩
def Fr (S : Nat → Prop) (M M' : mS) : Prop := (∀ b, ¬ S b → mI M' b = mI M b) ∧ ∀ b, ¬ S b → mJ M' b = mJ M b
theorem Fr_rf {S : Nat → Prop} {M : mS} : Fr S M M := ⟨fun _ _ => rfl, fun _ _ => rfl⟩
theorem Fr_tr {S : Nat → Prop} {M M1 M2 : mS} (h : Fr S M M1) (h2 : Fr S M1 M2) : Fr S M M2 := ⟨fun b hb => (h2.1 b hb).trans (h.1 b hb), fun b hb => (h2.2 b hb).trans (h.2 b hb)⟩
theorem Fr_mono {S S' : Nat → Prop} {M M' : mS} (h : Fr S M M') (hs : ∀ b, S b → S' b) : Fr S' M M' := ⟨fun b hb => h.1 b (fun q => hb (hs b q)), fun b hb => h.2 b (fun q => hb (hs b q))⟩
theorem Fr_sub {ad : Nat → Nat} {lo hi lo' hi' : Nat} {M M' : mS} (h : Fr (Bk ad lo hi) M M') (h1 : lo' ≤ lo) (h2 : hi ≤ hi') : Fr (Bk ad lo' hi') M M' := Fr_mono h (fun _ => Bk_sub h1 h2)
theorem Fr_wI {S : Nat → Prop} {M M1 : mS} {a j : Nat} {v : Int32} (h : Fr S M M1) (ha : S a) : Fr S M (wI M1 a j v) := Fr_tr h ⟨fun b hb => by rw [mI_wI, if_neg (fun e : b = a => hb (e ▸ ha))], fun b _ => rfl⟩
theorem Fr_wC {S : Nat → Prop} {M M1 : mS} {a : Nat} {f : Nat → Int32} (h : Fr S M M1) (ha : S a) : Fr S M (wC M1 a f) := Fr_tr h ⟨fun b hb => by rw [mI_wC, if_neg (fun e : b = a => hb (e ▸ ha))], fun b _ => rfl⟩
theorem Fr_wJ {S : Nat → Prop} {M M1 : mS} {a j : Nat} {v : Int64} (h : Fr S M M1) (ha : S a) : Fr S M (wJ M1 a j v) := Fr_tr h ⟨fun b _ => rfl, fun b hb => by rw [mJ_wJ, if_neg (fun e : b = a => hb (e ▸ ha))]⟩
theorem Fr_I {ad : Nat → Nat} (hA : Inj ad) {lo hi k : Nat} {M M' : mS} (h : Fr (Bk ad lo hi) M M') (hk : k < lo ∨ hi ≤ k) : mI M' (ad k) = mI M (ad k) := h.1 _ (Bk_out hA hk)
theorem Fr_J {ad : Nat → Nat} (hA : Inj ad) {lo hi k : Nat} {M M' : mS} (h : Fr (Bk ad lo hi) M M') (hk : k < lo ∨ hi ≤ k) : mJ M' (ad k) = mJ M (ad k) := h.2 _ (Bk_out hA hk)
/-- an ant: rule, column, row, side, walks, steps, steps of its path, its path -/
abbrev aA : Type := Nat × Nat × Nat × Nat × Nat × Nat × Nat × (Nat → Nat)
abbrev an_r (A : aA) : Nat := A.1
abbrev an_x (A : aA) : Nat := A.2.1
abbrev an_y (A : aA) : Nat := A.2.2.1
abbrev an_s (A : aA) : Nat := A.2.2.2.1
abbrev an_w (A : aA) : Nat := A.2.2.2.2.1
abbrev an_t (A : aA) : Nat := A.2.2.2.2.2.1
abbrev an_n (A : aA) : Nat := A.2.2.2.2.2.2.1
abbrev an_h (A : aA) : Nat → Nat := A.2.2.2.2.2.2.2
def vA (A : aA) : Prop := an_r A < 5 ∧ an_x A < 64 ∧ an_y A < 64 ∧ an_s A < 4 ∧ an_w A < 2 ∧ ∀ k, an_h A k < 4
def nx (x s : Nat) : Nat := if s = 1 then (x + 1) % 64 else if s = 3 then (x + 63) % 64 else x
def ny (y s : Nat) : Nat := if s = 2 then (y + 1) % 64 else if s = 0 then (y + 63) % 64 else y
def tb (t : Nat) : Nat := if t = 0 then 3 else if t = 1 then 1 else if t = 2 then 0 else 2
theorem nx_lt {x s : Nat} (h : x < 64) : nx x s < 64 := by unfold nx; split <;> (try split) <;> omega
theorem ny_lt {x s : Nat} (h : x < 64) : ny x s < 64 := by unfold ny; split <;> (try split) <;> omega
theorem f_T_ok : ∀ t : Nat, t < 4 → f_T t = zn (tb t) := by decide +kernel
theorem f_E_ok : ∀ x : Nat, x < 64 → ∀ s : Nat, s < 4 → (zn x + f_E s) &&& 63 = zn (nx x s) := by decide +kernel
theorem f_S_ok : ∀ x : Nat, x < 64 → ∀ s : Nat, s < 4 → (zn x + f_S s) &&& 63 = zn (ny x s) := by decide +kernel
def anStep (s : Nat) (A : aA) : aA := (an_r A, nx (an_x A) s, ny (an_y A) s, s, an_w A, an_t A + 1, an_n A + 1, fun k => if k = an_n A then s else an_h A k)
def anGo (t : Nat) (A : aA) : aA := anStep ((an_s A + tb t) % 4) A
theorem st_r {s : Nat} {A : aA} : an_r (anStep s A) = an_r A := rfl
theorem st_x {s : Nat} {A : aA} : an_x (anStep s A) = nx (an_x A) s := rfl
theorem st_y {s : Nat} {A : aA} : an_y (anStep s A) = ny (an_y A) s := rfl
theorem st_s {s : Nat} {A : aA} : an_s (anStep s A) = s := rfl
theorem st_w {s : Nat} {A : aA} : an_w (anStep s A) = an_w A := rfl
theorem st_t {s : Nat} {A : aA} : an_t (anStep s A) = an_t A + 1 := rfl
theorem st_n {s : Nat} {A : aA} : an_n (anStep s A) = an_n A + 1 := rfl
theorem st_h {s : Nat} {A : aA} {k : Nat} : an_h (anStep s A) k = if k = an_n A then s else an_h A k := rfl
/-- the least period, looked for from p on -/
def dE (s : Nat) : Int := if s = 1 then 1 else if s = 3 then -1 else 0
def dS (s : Nat) : Int := if s = 2 then 1 else if s = 0 then -1 else 0
def sE (n : Nat) (h : Nat → Nat) : Nat → Int
  | 0 => 0
  | p + 1 => sE n h p + dE (h (n - (p + 1)))
def sS (n : Nat) (h : Nat → Nat) : Nat → Int
  | 0 => 0
  | p + 1 => sS n h p + dS (h (n - (p + 1)))
def rpB (n : Nat) (h : Nat → Nat) (p : Nat) : Bool := (List.range (2 * p)).all fun j => h (n - (j + 1)) == h (n - (j + 1) - p)
theorem rpB_t {n : Nat} {h : Nat → Nat} {p : Nat} : rpB n h p = true ↔ ∀ j, j < 2 * p → h (n - (j + 1)) = h (n - (j + 1) - p) := by
  unfold rpB
  rw [List.all_eq_true]
  constructor
  · intro H j hj
    exact beq_iff_eq.mp (H j (List.mem_range.mpr hj))
  · intro H j hj
    exact beq_iff_eq.mpr (H j (List.mem_range.mp hj))
def pok (n : Nat) (h : Nat → Nat) (p : Nat) : Bool := decide (3 * p ≤ n) && (rpB n h p && (sE n h p != 0 || sS n h p != 0))
def perF (n : Nat) (h : Nat → Nat) : Nat → Nat → Nat
  | 0, _ => 0
  | f + 1, p => if pok n h p then p else perF n h f (p + 1)
def per (n : Nat) (h : Nat → Nat) : Nat := perF n h 120 1
theorem perF_le {n : Nat} {h : Nat → Nat} : ∀ f p : Nat, perF n h f p ≤ f + p - 1 := by
  intro f
  induction f with
  | zero => intro p; exact Nat.zero_le _
  | succ f ih =>
    intro p
    unfold perF
    split
    · omega
    · have := ih (p + 1); omega
theorem per_le {n : Nat} {h : Nat → Nat} : per n h ≤ 120 := perF_le 120 1
theorem perF_big {n : Nat} {h : Nat → Nat} : ∀ f p : Nat, n < 3 * p → perF n h f p = 0 := by
  intro f
  induction f with
  | zero => intro p _; rfl
  | succ f ih =>
    intro p hp
    unfold perF
    rw [if_neg, ih (p + 1) (by omega)]
    unfold pok
    rw [decide_eq_false (by omega)]
    simp
theorem per_3 {n : Nat} {h : Nat → Nat} (hp : per n h ≠ 0) : 3 * per n h ≤ n ∧ 0 < per n h := by
  have key : ∀ f p : Nat, perF n h f p ≠ 0 → 3 * perF n h f p ≤ n := by
    intro f
    induction f with
    | zero => intro p hp; exact absurd rfl hp
    | succ f ih =>
      intro p
      unfold perF
      split
      · next hk =>
        intro _
        unfold pok at hk
        rw [Bool.and_eq_true] at hk
        exact of_decide_eq_true hk.1
      · exact ih (p + 1)
  exact ⟨key 120 1 hp, Nat.pos_of_ne_zero hp⟩
theorem sE_le {n : Nat} {h : Nat → Nat} : ∀ p : Nat, -(p : Int) ≤ sE n h p ∧ sE n h p ≤ p := by
  intro p
  induction p with
  | zero => exact ⟨Int.le_refl _, Int.le_refl _⟩
  | succ p ih =>
    have : -1 ≤ dE (h (n - (p + 1))) ∧ dE (h (n - (p + 1))) ≤ 1 := by unfold dE; split <;> (try split) <;> omega
    unfold sE
    omega
theorem sS_le {n : Nat} {h : Nat → Nat} : ∀ p : Nat, -(p : Int) ≤ sS n h p ∧ sS n h p ≤ p := by
  intro p
  induction p with
  | zero => exact ⟨Int.le_refl _, Int.le_refl _⟩
  | succ p ih =>
    have : -1 ≤ dS (h (n - (p + 1))) ∧ dS (h (n - (p + 1))) ≤ 1 := by unfold dS; split <;> (try split) <;> omega
    unfold sS
    omega
theorem ofInt_zero {x : Int} (h1 : -2147483648 ≤ x) (h2 : x < 2147483648) : Int32.ofInt x = 0 ↔ x = 0 := by
  constructor
  · intro h
    have := congrArg Int32.toInt h
    rw [Int32.toInt_ofInt_of_le h1 h2] at this
    exact this
  · intro h; rw [h]; rfl
theorem f_E_d : ∀ s : Nat, s < 4 → f_E s = Int32.ofInt (dE s) := by decide +kernel
theorem f_S_d : ∀ s : Nat, s < 4 → f_S s = Int32.ofInt (dS s) := by decide +kernel
/-- the class's ant at index a, its row of sides behind it -/
def ASh (G : gS) (ad : Nat → Nat) (a : Nat) : Prop := gP G (ad a) 8 = some (ad (a + 1)) ∧ gN G (ad (a + 1)) = 512
def cA0 (ad : Nat → Nat) (M : mS) (a : Nat) (A : aA) : Prop := mI M (ad a) 0 = zn (an_r A) ∧ mI M (ad a) 1 = zn (an_x A) ∧ mI M (ad a) 2 = zn (an_y A) ∧ mI M (ad a) 3 = zn (an_s A) ∧ mI M (ad a) 4 = zn (an_w A) ∧ mI M (ad a) 5 = zn (an_t A) ∧ mI M (ad a) 6 = zn (an_n A) ∧ ∀ k, 1 ≤ k → k ≤ an_n A → k ≤ 512 → mI M (ad (a + 1)) ((an_n A - k) % 512) = zn (an_h A (an_n A - k))
def cA (ad : Nat → Nat) (M : mS) (a : Nat) (A : aA) : Prop := cA0 ad M a A ∧ (mI M (ad a) 7 = -1 ∨ mI M (ad a) 7 = zn (per (an_n A) (an_h A)))
theorem cA0_7 {ad : Nat → Nat} (hA : Inj ad) {M : mS} {a : Nat} {A : aA} {v : Int32} (h : cA0 ad M a A) : cA0 ad (wI M (ad a) 7 v) a A := by
  have hne : ad (a + 1) ≠ ad a := ad_ne hA (by omega)
  unfold cA0
  simp only [mI_wI, upd_at, hne, reduceIte, Nat.reduceEqDiff]
  exact h
theorem cA_kept {ad : Nat → Nat} {M M' : mS} {a : Nat} {A : aA} (h : cA ad M a A) (h1 : mI M' (ad a) = mI M (ad a)) (h2 : mI M' (ad (a + 1)) = mI M (ad (a + 1))) : cA ad M' a A := by
  unfold cA cA0
  rw [h1, h2]
  exact h
theorem cA_Fr {ad : Nat → Nat} (hA : Inj ad) {lo hi : Nat} {M M' : mS} {a : Nat} {A : aA} (h : cA ad M a A) (hF : Fr (Bk ad lo hi) M M') (hd : a + 1 < lo ∨ hi ≤ a) : cA ad M' a A := cA_kept h (Fr_I hA hF (by omega)) (Fr_I hA hF (by omega))
section AntSpecs
variable {G : gS} {ad : Nat → Nat} {M : mS} {a : Nat} {A : aA}
theorem cA_go (hA : Inj ad) (hS : ASh G ad a) (hc : cA ad M a A) (hv : vA A) (hn : an_n A < 1000000000) {t : Nat} (ht : t < 4) : p_cl (m_X0_go G M (ad a) (zn t)) (fun M' _ => cA ad M' a (anGo t A) ∧ Fr (Bk ad a (a + 2)) M M') := by
  obtain ⟨⟨h0, h1, h2, h3, h4, h5, h6, h8⟩, h7⟩ := hc
  obtain ⟨v0, v1, v2, v3, v4, v5⟩ := hv
  have hne : ad (a + 1) ≠ ad a := ad_ne hA (by omega)
  have hne' : ad a ≠ ad (a + 1) := ad_ne hA (by omega)
  have e1 : zn t &&& 3 = zn t := by rw [zn_3, Nat.mod_eq_of_lt ht]
  have e2 : Int32.toNatClampNeg (zn t) = t := zn_nat (by omega)
  have hs : (an_s A + tb t) % 4 < 4 := Nat.mod_lt _ (by decide)
  have e3 : Int32.toNatClampNeg (zn ((an_s A + tb t) % 4)) = (an_s A + tb t) % 4 := zn_nat (by omega)
  have e4 : Int32.toNatClampNeg (zn (an_n A % 512)) = an_n A % 512 := zn_nat (by omega)
  unfold m_X0_go
  rw [e1, e2, f_T_ok t ht]
  refine c_ix (zn_in ht (by decide)) ?_
  refine c_wI ?_
  simp only [mI_wI, upd_at, hne, hne', reduceIte, Nat.reduceEqDiff, h3, zn_add, zn_3, e3, h1, h2]
  refine c_ix (zn_in hs (by decide)) ?_
  refine c_wI ?_
  rw [f_E_ok _ v1 _ hs]
  simp only [mI_wI, upd_at, hne, hne', reduceIte, Nat.reduceEqDiff, h3, zn_add, zn_3, e3, h1, h2]
  refine c_ix (zn_in hs (by decide)) ?_
  refine c_wI ?_
  rw [f_S_ok _ v2 _ hs]
  refine c_rf hS.1 ?_
  simp only [mI_wI, upd_at, hne, hne', reduceIte, Nat.reduceEqDiff, h6, zn_511, e4]
  refine c_ix (by rw [hS.2]; exact zn_in (Nat.mod_lt _ (by decide)) (by decide)) ?_
  refine c_wI ?_
  refine c_wI ?_
  refine c_wI ?_
  refine c_wI ?_
  refine c_some ⟨?_, ?_⟩
  · unfold cA cA0 anGo
    simp only [mI_wI, upd_at, hne, hne', reduceIte, Nat.reduceEqDiff, h0, h1, h2, h3, h4, h5, h6, zn_one, st_r, st_x, st_y, st_s, st_w, st_t, st_n, st_h]
    refine ⟨⟨trivial, trivial, trivial, trivial, trivial, trivial, trivial, ?_⟩, Or.inl trivial⟩
    intro k k1 k2 k3
    by_cases hk : k = 1
    · subst hk
      simp
    · rw [if_neg (by omega), if_neg (by omega)]
      rw [show an_n A + 1 - k = an_n A - (k - 1) by omega]
      exact h8 (k - 1) (by omega) (by omega) (by omega)
  · exact Fr_wI (Fr_wI (Fr_wI (Fr_wI (Fr_wI (Fr_wI (Fr_wI Fr_rf (Bk_in (by omega) (by omega))) (Bk_in (by omega) (by omega))) (Bk_in (by omega) (by omega))) (Bk_in (by omega) (by omega))) (Bk_in (by omega) (by omega))) (Bk_in (by omega) (by omega))) (Bk_in (by omega) (by omega))
theorem c_side (hS : ASh G ad a) (hc : cA0 ad M a A) (hv : vA A) (hn : an_n A < 1000000000) {k : Nat} (k1 : 1 ≤ k) (k2 : k ≤ an_n A) (k3 : k ≤ 512) : m_X0_sideOfStep G M (ad a) (zn k) = some (M, zn (an_h A (an_n A - k))) := by
  obtain ⟨h0, h1, h2, h3, h4, h5, h6, h8⟩ := hc
  have e : mI M (ad a) 6 - zn k &&& 511 = zn ((an_n A - k) % 512) := by rw [h6, zn_sub k2, zn_511]
  have hlt : (an_n A - k) % 512 < 512 := Nat.mod_lt _ (by decide)
  unfold m_X0_sideOfStep o_rf o_ix
  rw [hS.1]
  simp only [e, hS.2]
  rw [if_neg (show ¬ (zn ((an_n A - k) % 512) < 0 ∨ 512 ≤ (zn ((an_n A - k) % 512)).toNatClampNeg) from zn_in hlt (by decide)), zn_nat (by omega), h8 k k1 k2 k3, zn_3, Nat.mod_eq_of_lt (hv.2.2.2.2.2 _)]
theorem c_rep_loop (hS : ASh G ad a) (hc : cA0 ad M a A) (hv : vA A) (hn : an_n A < 1000000000) {p : Nat} (p1 : 1 ≤ p) (p2 : p ≤ 120) (p3 : 3 * p ≤ an_n A) : ∀ (d b f : Nat), 1 ≤ b → b + d = 2 * p + 1 → d < f → p_cl (m_X0_repeats_9 G (ad a) (zn p) f M (zn (an_n A - p)) (zn b)) (fun M' r => M' = M ∧ ((r = 1 ∧ ∀ j, b ≤ j + 1 → j < 2 * p → an_h A (an_n A - (j + 1)) = an_h A (an_n A - (j + 1) - p)) ∨ (r = 0 ∧ ∃ j, j < 2 * p ∧ an_h A (an_n A - (j + 1)) ≠ an_h A (an_n A - (j + 1) - p)))) := by
  intro d
  induction d with
  | zero =>
    intro b f b1 hb hf
    obtain ⟨f, rfl⟩ : ∃ g, f = g + 1 := ⟨f - 1, by omega⟩
    rw [m_X0_repeats_9]
    refine c_t ?_ ?_
    · rw [show (2 : Int32) * zn p = zn (2 * p) from zn_mul 2 p, zn_lt (by omega) (by omega)]; omega
    · refine c_ck (Or.inr rfl) (c_some ⟨rfl, Or.inl ⟨rfl, fun j h1 h2 => by omega⟩⟩)
  | succ d ih =>
    intro b f b1 hb hf
    obtain ⟨f, rfl⟩ : ∃ g, f = g + 1 := ⟨f - 1, by omega⟩
    obtain ⟨h0, h1, h2, h3, h4, h5, h6, h8⟩ := id hc
    have e1 : mI M (ad a) 6 - zn b &&& 511 = zn ((an_n A - b) % 512) := by rw [h6, zn_sub (by omega), zn_511]
    have e2 : zn (an_n A - p) - zn b &&& 511 = zn ((an_n A - (b + p)) % 512) := by rw [zn_sub (by omega), zn_511]; congr 2; omega
    have q1 : (an_n A - b) % 512 < 512 := Nat.mod_lt _ (by decide)
    have q2 : (an_n A - (b + p)) % 512 < 512 := Nat.mod_lt _ (by decide)
    rw [m_X0_repeats_9]
    refine c_f ?_ ?_
    · rw [show (2 : Int32) * zn p = zn (2 * p) from zn_mul 2 p, zn_lt (by omega) (by omega)]; omega
    · rw [e1, e2]
      refine c_rf hS.1 (c_ix (by rw [hS.2]; exact zn_in q1 (by decide)) (c_rf hS.1 (c_ix (by rw [hS.2]; exact zn_in q2 (by decide)) ?_)))
      rw [zn_nat (by omega), zn_nat (by omega), h8 b b1 (by omega) (by omega), h8 (b + p) (by omega) (by omega) (by omega)]
      have l1 := hv.2.2.2.2.2 (an_n A - b)
      have l2 := hv.2.2.2.2.2 (an_n A - (b + p))
      refine c_if (fun k => ?_) (fun k => ?_)
      · rw [zn_inj (by omega) (by omega)] at k
        refine c_bd ?_
        rw [zn_one]
        refine c_mono (ih (b + 1) f (by omega) (by omega) (by omega)) ?_
        rintro M' r ⟨rfl, ⟨hr, H⟩ | ⟨hr, H⟩⟩
        · refine ⟨rfl, Or.inl ⟨hr, fun j j1 j2 => ?_⟩⟩
          by_cases hj : j + 1 = b
          · rw [hj, k]; congr 1; omega
          · exact H j (by omega) j2
        · exact ⟨rfl, Or.inr ⟨hr, H⟩⟩
      · rw [zn_inj (by omega) (by omega)] at k
        refine c_ck (Or.inl rfl) (c_some ⟨rfl, Or.inr ⟨rfl, b - 1, by omega, ?_⟩⟩)
        rw [show b - 1 + 1 = b by omega, show an_n A - b - p = an_n A - (b + p) by omega]
        exact k
theorem c_rep (hS : ASh G ad a) (hc : cA0 ad M a A) (hv : vA A) (hn : an_n A < 1000000000) {p : Nat} (p1 : 1 ≤ p) (p2 : p ≤ 120) (p3 : 3 * p ≤ an_n A) : p_cl (m_X0_repeats G M (ad a) (zn p)) (fun M' r => M' = M ∧ r = if rpB (an_n A) (an_h A) p then 1 else 0) := by
  unfold m_X0_repeats
  refine c_bd ?_
  rw [hc.2.2.2.2.2.2.1, zn_sub (by omega)]
  refine c_mono (c_rep_loop hS hc hv hn p1 p2 p3 (2 * p) 1 fu (by omega) (by omega) (by unfold fu; omega)) ?_
  rintro M' r ⟨rfl, ⟨hr, H⟩ | ⟨hr, H⟩⟩
  · rw [if_pos (rpB_t.mpr (fun j hj => H j (by omega) hj))]
    exact ⟨rfl, hr⟩
  · rw [if_neg]
    · exact ⟨rfl, hr⟩
    · intro hh
      obtain ⟨j, j1, j2⟩ := H
      exact j2 (rpB_t.mp hh j j1)
theorem pok_f {n : Nat} {h : Nat → Nat} {p : Nat} (e : ¬ 3 * p ≤ n) : pok n h p = false := by
  unfold pok
  rw [decide_eq_false e]
  rfl
theorem c_per_done {v : Int32} (h7 : mI M (ad a) 7 = v) (hv : v ≠ 0) {f : Nat} {v1 v2 v3 : Int32} : m_X0_period_24 G (ad a) (f + 1) M v1 v2 v3 = some (M, v) := by
  rw [m_X0_period_24]
  unfold m_X0_period_99
  rw [h7, if_neg hv]
  simp only [ite_self]
theorem c_per_loop (hA : Inj ad) (hS : ASh G ad a) (hc : cA0 ad M a A) (hv : vA A) (hn : an_n A < 1000000000) (h7 : mI M (ad a) 7 = 0) : ∀ (f p g : Nat), f + p = 121 → 1 ≤ p → f + 1 < g → p_cl (m_X0_period_24 G (ad a) g M (Int32.ofInt (sE (an_n A) (an_h A) (p - 1))) (Int32.ofInt (sS (an_n A) (an_h A) (p - 1))) (zn p)) (fun M' r => r = zn (perF (an_n A) (an_h A) f p) ∧ (M' = M ∧ perF (an_n A) (an_h A) f p = 0 ∨ M' = wI M (ad a) 7 (zn (perF (an_n A) (an_h A) f p)))) := by
  intro f
  induction f with
  | zero =>
    intro p g hp p1 hg
    obtain ⟨g, rfl⟩ : ∃ k, g = k + 1 := ⟨g - 1, by omega⟩
    rw [m_X0_period_24]
    refine c_t ?_ ?_
    · rw [show (120 : Int32) = zn 120 from rfl, zn_lt (by omega) (by omega)]; omega
    · unfold m_X0_period_99
      rw [h7]
      exact c_some ⟨rfl, Or.inl ⟨rfl, rfl⟩⟩
  | succ f ih =>
    intro p g hp p1 hg
    obtain ⟨g, rfl⟩ : ∃ k, g = k + 1 := ⟨g - 1, by omega⟩
    rw [m_X0_period_24]
    refine c_f ?_ ?_
    · rw [show (120 : Int32) = zn 120 from rfl, zn_lt (by omega) (by omega)]; omega
    · rw [hc.2.2.2.2.2.2.1, show (3 : Int32) * zn p = zn (3 * p) from zn_mul 3 p]
      refine c_if (fun k => ?_) (fun k => ?_)
      · rw [zn_lt (by omega) (by omega)] at k
        unfold m_X0_period_99
        rw [h7, perF_big _ _ k]
        exact c_some ⟨rfl, Or.inl ⟨rfl, rfl⟩⟩
      · rw [zn_lt (by omega) (by omega)] at k
        refine c_t h7 ?_
        rw [c_side hS hc hv hn p1 (by omega) (by omega)]
        have l1 := hv.2.2.2.2.2 (an_n A - p)
        refine c_cl (c_some ?_)
        rw [zn_nat (by omega), f_E_d _ l1, f_S_d _ l1, ← Int32.ofInt_add, ← Int32.ofInt_add]
        have eE : sE (an_n A) (an_h A) (p - 1) + dE (an_h A (an_n A - p)) = sE (an_n A) (an_h A) p := by
          obtain ⟨q, rfl⟩ : ∃ q, p = q + 1 := ⟨p - 1, by omega⟩
          rfl
        have eS : sS (an_n A) (an_h A) (p - 1) + dS (an_h A (an_n A - p)) = sS (an_n A) (an_h A) p := by
          obtain ⟨q, rfl⟩ : ∃ q, p = q + 1 := ⟨p - 1, by omega⟩
          rfl
        rw [eE, eS]
        refine c_ix (zn_in l1 (by decide)) (c_bd (c_ix (zn_in l1 (by decide)) (c_bd ?_)))
        have bE := sE_le (n := an_n A) (h := an_h A) p
        have bS := sS_le (n := an_n A) (h := an_h A) p
        have key : p_cl (m_X0_period_80 G (ad a) (fun M v1 v2 v3 => m_X0_period_24 G (ad a) g M v1 v2 v3) M (Int32.ofInt (sE (an_n A) (an_h A) p)) (Int32.ofInt (sS (an_n A) (an_h A) p)) (zn p)) (fun M' r => (rpB (an_n A) (an_h A) p = true ∧ r = zn p ∧ M' = wI M (ad a) 7 (zn p)) ∨ (rpB (an_n A) (an_h A) p = false ∧ r = zn (perF (an_n A) (an_h A) f (p + 1)) ∧ (M' = M ∧ perF (an_n A) (an_h A) f (p + 1) = 0 ∨ M' = wI M (ad a) 7 (zn (perF (an_n A) (an_h A) f (p + 1)))))) := by
          unfold m_X0_period_80
          refine c_clm (c_rep hS hc hv hn p1 (by omega) (by omega)) ?_
          rintro M' r ⟨rfl, rfl⟩
          cases hr : rpB (an_n A) (an_h A) p with
          | true =>
            refine c_f (by decide) (c_wI ?_)
            unfold m_X0_period_93
            refine c_bd ?_
            dsimp only
            obtain ⟨g, rfl⟩ : ∃ k, g = k + 1 := ⟨g - 1, by omega⟩
            rw [c_per_done (v := zn p) (by rw [mI_wI, if_pos rfl, upd_at, if_pos rfl]) (by rw [show (0 : Int32) = zn 0 from rfl, Ne, zn_inj (by omega) (by omega)]; omega)]
            exact c_some (Or.inl ⟨rfl, rfl, rfl⟩)
          | false =>
            refine c_t (by decide) ?_
            unfold m_X0_period_93
            refine c_bd ?_
            dsimp only
            rw [zn_one]
            refine c_mono (ih (p + 1) g (by omega) (by omega) (by omega)) ?_
            rintro M' r H
            exact Or.inr ⟨rfl, H⟩
        have z1 := ofInt_zero (x := sE (an_n A) (an_h A) p) (by omega) (by omega)
        have z2 := ofInt_zero (x := sS (an_n A) (an_h A) p) (by omega) (by omega)
        have fin : p_cl (m_X0_period_80 G (ad a) (fun M v1 v2 v3 => m_X0_period_24 G (ad a) g M v1 v2 v3) M (Int32.ofInt (sE (an_n A) (an_h A) p)) (Int32.ofInt (sS (an_n A) (an_h A) p)) (zn p)) (fun M' r => (sE (an_n A) (an_h A) p ≠ 0 ∨ sS (an_n A) (an_h A) p ≠ 0) → r = zn (perF (an_n A) (an_h A) (f + 1) p) ∧ (M' = M ∧ perF (an_n A) (an_h A) (f + 1) p = 0 ∨ M' = wI M (ad a) 7 (zn (perF (an_n A) (an_h A) (f + 1) p)))) := by
          refine c_mono key ?_
          intro M' r H hz
          have hb : (sE (an_n A) (an_h A) p != 0 || sS (an_n A) (an_h A) p != 0) = true := by
            rw [Bool.or_eq_true, bne_iff_ne, bne_iff_ne]; exact hz
          have e : pok (an_n A) (an_h A) p = rpB (an_n A) (an_h A) p := by
            unfold pok
            rw [decide_eq_true (by omega), hb]
            simp
          rcases H with ⟨h1, h2, h3⟩ | ⟨h1, h2, h3⟩
          · have e2 : perF (an_n A) (an_h A) (f + 1) p = p := by
              rw [perF, e, h1, if_pos rfl]
            rw [e2]
            exact ⟨h2, Or.inr h3⟩
          · have e2 : perF (an_n A) (an_h A) (f + 1) p = perF (an_n A) (an_h A) f (p + 1) := by
              rw [perF, e, h1]
              rfl
            rw [e2]
            exact ⟨h2, h3⟩
        refine c_if (fun q1 => ?_) (fun q1 => ?_)
        · refine c_if (fun q2 => ?_) (fun q2 => ?_)
          · have e2 : perF (an_n A) (an_h A) (f + 1) p = perF (an_n A) (an_h A) f (p + 1) := by
              rw [perF, if_neg]
              unfold pok
              rw [z1.mp q1, z2.mp q2]
              simp
            rw [e2]
            unfold m_X0_period_93
            refine c_bd ?_
            dsimp only
            rw [zn_one]
            exact ih (p + 1) g (by omega) (by omega) (by omega)
          · exact c_mono fin (fun M' r H => H (Or.inr (fun e => q2 (z2.mpr e))))
        · exact c_mono fin (fun M' r H => H (Or.inl (fun e => q1 (z1.mpr e))))
theorem cA_per (hA : Inj ad) (hS : ASh G ad a) (hc : cA ad M a A) (hv : vA A) (hn : an_n A < 1000000000) : p_cl (m_X0_period G M (ad a)) (fun M' r => r = zn (per (an_n A) (an_h A)) ∧ (M' = M ∨ ∃ v, M' = wI M (ad a) 7 v) ∧ cA ad M' a A ∧ Fr (Bk ad a (a + 2)) M M') := by
  unfold m_X0_period
  refine c_if (fun k => ?_) (fun k => ?_)
  · refine c_wI ?_
    have hc0 := cA0_7 (v := 0) hA hc.1
    refine c_mono (c_per_loop hA hS hc0 hv hn (by rw [mI_wI, if_pos rfl, upd_at, if_pos rfl]) 120 1 fu (by omega) (by omega) (by unfold fu; omega)) ?_
    rintro M' r ⟨hr, H⟩
    have hF : Fr (Bk ad a (a + 2)) M (wI M (ad a) 7 0) := Fr_wI Fr_rf (Bk_in (by omega) (by omega))
    refine ⟨hr, ?_⟩
    rcases H with ⟨rfl, h0⟩ | rfl
    · refine ⟨Or.inr ⟨_, rfl⟩, ⟨hc0, Or.inr ?_⟩, hF⟩
      rw [mI_wI, if_pos rfl, upd_at, if_pos rfl]
      show (0 : Int32) = zn (perF _ _ 120 1)
      rw [h0]
      rfl
    · have e : wI (wI M (ad a) 7 0) (ad a) 7 (zn (perF (an_n A) (an_h A) 120 1)) = wI M (ad a) 7 (zn (per (an_n A) (an_h A))) := by
        show (_, _) = (_, _)
        congr 1
        funext b
        show (if b = ad a then upd (mI (wI M (ad a) 7 0) (ad a)) 7 _ else mI (wI M (ad a) 7 0) b) = if b = ad a then upd (mI M (ad a)) 7 _ else mI M b
        split
        · funext j
          rw [upd_at, upd_at, mI_wI, if_pos rfl, upd_at]
          split
          · rfl
          · rfl
        · next hb => rw [mI_wI, if_neg hb]
      rw [e]
      refine ⟨Or.inr ⟨_, rfl⟩, ⟨cA0_7 hA hc.1, Or.inr ?_⟩, Fr_wI Fr_rf (Bk_in (by omega) (by omega))⟩
      rw [mI_wI, if_pos rfl, upd_at, if_pos rfl]
  · refine c_some ⟨?_, Or.inl rfl, hc, Fr_rf⟩
    rcases hc.2 with h | h
    · exact absurd h k
    · exact h
end AntSpecs
