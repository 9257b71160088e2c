/-! the yard by hand: words' rules, what it is in the pool -/
theorem i_ix {i : Int32} {n : Nat} {k : Prop} (h : vp_in i n) (H : k) : p_ix i n k := ⟨h, H⟩
theorem i_ck {c k : Prop} (h : c) (H : k) : p_ck c k := ⟨h, H⟩
theorem i_rf {r : Option Nat} {a : Nat} {k : Nat → Prop} (h : r = some a) (H : k a) : p_rf r k := ⟨a, h, H⟩
theorem i_bd {β : Type} {e : β} {k : β → Prop} (H : k e) : p_bd e k := H
theorem i_bde {β : Type} {e e' : β} {k : β → Prop} (he : e = e') (H : k e') : p_bd e k := he ▸ H
theorem i_wI {M : mS} {a j : Nat} {v : Int32} {k : mS → Prop} (H : k (wI M a j v)) : p_wI M a j v k := H
theorem i_sR {G : gS} {a j r : Nat} {k : gS → Prop} (H : k (gSt G a j r)) : p_sR G a j r k := H
theorem i_t {c a b : Prop} (h : c) (H : a) : p_if c a b := ⟨fun _ => H, fun n => absurd h n⟩
theorem i_f {c a b : Prop} (h : ¬ c) (H : b) : p_if c a b := ⟨fun y => absurd y h, fun _ => H⟩
theorem i_if {c a b : Prop} (H : c → a) (H2 : ¬ c → b) : p_if c a b := ⟨H, H2⟩
theorem i_ca {α : Type} {b u v : uS} {f : uS → (gS → mS → α → Prop) → Prop} {k : uS → gS → mS → α → Prop} (hu : uL (uP u v) b) (h : f v (fun G M r => k (uP u v) G M r)) : q_ca b u f k := ⟨v, hu, h⟩
theorem i_ca0 {α : Type} {b u : uS} {f : uS → (gS → mS → α → Prop) → Prop} {k : uS → gS → mS → α → Prop} (hu : uL u b) (h : f (0, 0) (fun G M r => k u G M r)) : q_ca b u f k := ⟨(0, 0), hu, h⟩
theorem i_cl {β : Type} {x : Option (mS × β)} {k : mS → β → Prop} {Q : mS → β → Prop} (h : p_cl x Q) (H : ∀ M r, Q M r → k M r) : p_cl x k := by
  obtain ⟨M1, r, e, h1⟩ := h
  exact ⟨M1, r, e, H M1 r h1⟩
theorem uL0 {b : uS} : uL (0, 0) b := ⟨Nat.zero_le _, Nat.zero_le _⟩
theorem ln_zn {n : Nat} : Int32.ofNat n = zn n := rfl
theorem nat_3 : Int32.toNatClampNeg (3 : Int32) = 3 := by decide
theorem nat_0 : Int32.toNatClampNeg (0 : Int32) = 0 := by decide
theorem nat_1 : Int32.toNatClampNeg (1 : Int32) = 1 := by decide
theorem nat_2 : Int32.toNatClampNeg (2 : Int32) = 2 := by decide
theorem nat_4 : Int32.toNatClampNeg (4 : Int32) = 4 := by decide
theorem nat_5 : Int32.toNatClampNeg (5 : Int32) = 5 := by decide
/-- where Sim's things lie: its five rows of rows, and their rows -/
abbrev sA : Type := (Nat → Nat) × (Nat → Nat) × (Nat → Nat) × (Nat → Nat) × (Nat → Nat) × (Nat → Nat)
abbrev sg (S : sA) : Nat → Nat := S.1
abbrev srr (S : sA) : Nat → Nat := S.2.1
abbrev sry (S : sA) : Nat → Nat := S.2.2.1
abbrev sra (S : sA) : Nat → Nat := S.2.2.2.1
abbrev srp (S : sA) : Nat → Nat := S.2.2.2.2.1
abbrev sro (S : sA) : Nat → Nat := S.2.2.2.2.2
/-- row i of a is q, of so many places; its role -/
def Rw (G : gS) (rl : Nat → Nat) (a i q role len : Nat) : Prop := gP G a i = some q ∧ q ∈ gL G ∧ gK G q = 12 ∧ rl q = role ∧ gN G q = len
def SGo (G : gS) (rl : Nat → Nat) (o : Nat) (S : sA) : Prop := (o ∈ gL G ∧ gK G o = 9 ∧ rl o = 1) ∧ ∀ i, i < 5 → gP G o (4 + i) = some (sg S i) ∧ sg S i ∈ gL G ∧ gK G (sg S i) = 15 ∧ rl (sg S i) = 2 + i
def SGn (G : gS) (S : sA) (P : aP) (n : Nat) : Prop := gN G (sg S 0) = pg_r P ∧ gN G (sg S 1) = 64 ∧ gN G (sg S 2) = n ∧ gN G (sg S 3) = n ∧ gN G (sg S 4) = pg_o P
def SGr (G : gS) (rl : Nat → Nat) (S : sA) (P : aP) (n : Nat) (ln : Nat → Nat) : Prop := (∀ i, i < pg_r P → Rw G rl (sg S 0) i (srr S i) (1000 + i) (pg_z P i)) ∧ (∀ r, r < 64 → Rw G rl (sg S 1) r (sry S r) (2000 + r) 64) ∧ (∀ i, i < n → Rw G rl (sg S 2) i (sra S i) (3000 + i) 6) ∧ (∀ i, i < n → Rw G rl (sg S 3) i (srp S i) (4000 + i) (ln i)) ∧ ∀ k, k < pg_o P → Rw G rl (sg S 4) k (sro S k) (5000 + k) 6
def SG (G : gS) (rl : Nat → Nat) (o : Nat) (S : sA) (P : aP) (n : Nat) (ln : Nat → Nat) : Prop := SGo G rl o S ∧ SGn G S P n ∧ SGr G rl S P n ln
/-- what they hold -/
def SMo (M : mS) (o : Nat) (Y : aY) : Prop := mI M o 0 = zn (yd_t Y) ∧ mI M o 1 = zn (yd_m Y) ∧ mI M o 2 = zn (yd_w Y) ∧ mI M o 3 = zn (yd_k Y)
def SMc (M : mS) (S : sA) (c : Nat → Nat) : Prop := ∀ r, r < 64 → ∀ x, x < 64 → mI M (sry S r) x = zn (c (64 * r + x))
def aRow (M : mS) (q : Nat) (A : aA) : Prop := mI M q 0 = zn (an_r A) ∧ mI M q 1 = zn (an_x A) ∧ mI M q 2 = zn (an_y A) ∧ mI M q 3 = zn (an_s A) ∧ mI M q 4 = zn (an_w A) ∧ mI M q 5 = zn (an_t A)
def SMa (M : mS) (S : sA) (n : Nat) (a : Nat → aA) : Prop := ∀ i, i < n → aRow M (sra S i) (a i) ∧ ∀ k, k < an_n (a i) → mI M (srp S i) k = zn (an_h (a i) k)
def SMp (M : mS) (S : sA) (P : aP) (q : Nat → Nat → Nat) : Prop := (∀ i, i < pg_r P → ∀ k, k < pg_z P i → mI M (srr S i) k = zn (pg_t P i k)) ∧ ∀ k, k < pg_o P → ∀ j, j < 6 → mI M (sro S k) j = zn (q k j)
def SM (G : gS) (M : mS) (rl : Nat → Nat) (o : Nat) (S : sA) (P : aP) (q : Nat → Nat → Nat) (Y : aY) : Prop := SG G rl o S P (yd_n Y) (fun i => an_n (yd_a Y i)) ∧ SMo M o Y ∧ SMc M S (yd_c Y) ∧ SMa M S (yd_n Y) (yd_a Y) ∧ SMp M S P q
section SimRead
variable {G : gS} {M : mS} {rl : Nat → Nat} {o : Nat} {S : sA} {P : aP} {q : Nat → Nat → Nat} {Y : aY} {b : uS} {bb : Nat}
theorem SM_f (h : SM G M rl o S P q Y) {i : Nat} (hi : i < 5) : gP G o (4 + i) = some (sg S i) := (h.1.1.2 i hi).1
theorem SM_y (h : SM G M rl o S P q Y) {r : Nat} (hr : r < 64) : gP G (sg S 1) r = some (sry S r) ∧ gN G (sry S r) = 64 := ⟨(h.1.2.2.2.1 r hr).1, (h.1.2.2.2.1 r hr).2.2.2.2⟩
theorem SM_a (h : SM G M rl o S P q Y) {i : Nat} (hi : i < yd_n Y) : gP G (sg S 2) i = some (sra S i) ∧ gN G (sra S i) = 6 := ⟨(h.1.2.2.2.2.1 i hi).1, (h.1.2.2.2.2.1 i hi).2.2.2.2⟩
theorem SM_p (h : SM G M rl o S P q Y) {i : Nat} (hi : i < yd_n Y) : gP G (sg S 3) i = some (srp S i) ∧ gN G (srp S i) = an_n (yd_a Y i) := ⟨(h.1.2.2.2.2.2.1 i hi).1, (h.1.2.2.2.2.2.1 i hi).2.2.2.2⟩
theorem SM_o (h : SM G M rl o S P q Y) {k : Nat} (hk : k < pg_o P) : gP G (sg S 4) k = some (sro S k) ∧ gN G (sro S k) = 6 := ⟨(h.1.2.2.2.2.2.2 k hk).1, (h.1.2.2.2.2.2.2 k hk).2.2.2.2⟩
theorem SM_r (h : SM G M rl o S P q Y) {i : Nat} (hi : i < pg_r P) : gP G (sg S 0) i = some (srr S i) ∧ gN G (srr S i) = pg_z P i := ⟨(h.1.2.2.1 i hi).1, (h.1.2.2.1 i hi).2.2.2.2⟩
theorem SM_n (h : SM G M rl o S P q Y) : SGn G S P (yd_n Y) := h.1.2.1
/-- dark stones of a row -/
theorem s_darkIn (h : SM G M rl o S P q Y) (hv : ∀ p, yd_c Y p < 6) {r : Nat} (hr : r < 64) {post : gS → mS → Int32 → Prop} (hp : post G M (zn (nz (yd_c Y) (64 * r) 64))) : n_X10_darkIn b G M o (zn r) post := by
  obtain ⟨hq, hn⟩ := SM_y h hr
  unfold n_X10_darkIn
  refine i_rf (SM_f h (i := 1) (by decide)) (i_ix (by rw [(SM_n h).2.1]; exact zn_in hr (by decide)) ?_)
  rw [zn_nat (by omega)]
  refine i_rf hq (i_bd ?_)
  rw [hn]
  refine ⟨fun n u G1 M1 v2 v3 v4 v5 => G1 = G ∧ M1 = M ∧ v3 = sry S r ∧ v4 = zn 64 ∧ ∃ j, n + j = 64 ∧ v5 = zn j ∧ v2 = zn (nz (yd_c Y) (64 * r) j), 64, ⟨rfl, rfl, rfl, rfl, 0, rfl, rfl, rfl⟩, ?_⟩
  rintro n u G1 M1 v2 v3 v4 v5 ⟨rfl, rfl, rfl, rfl, j, hj, rfl, rfl⟩
  unfold nb_X10_darkIn_16
  by_cases e : j = 64
  · subst e
    exact i_t ((zn_le (by decide) (by decide)).mpr (by decide)) hp
  · have hj2 : j < 64 := by omega
    refine i_f (by rw [zn_le (by decide) (by omega)]; omega) (i_ix (by rw [hn]; exact zn_in hj2 (by decide)) (i_bd ?_))
    rw [zn_nat (by omega), h.2.2.1 r hr j hj2]
    have hc := hv (64 * r + j)
    have hnz : nz (yd_c Y) (64 * r) (j + 1) = nz (yd_c Y) (64 * r) j + if yd_c Y (64 * r + j) = 0 then 0 else 1 := rfl
    refine i_if (fun k => ?_) (fun k => ?_)
    · have h0 : yd_c Y (64 * r + j) = 0 := by
        have := (zn_le (a := yd_c Y (64 * r + j)) (b := 0) (by omega) (by decide)).mp k
        omega
      refine ⟨n - 1, by omega, rfl, rfl, rfl, rfl, j + 1, by omega, zn_one j, ?_⟩
      rw [hnz, if_pos h0]
      exact zn_add _ 0
    · have h0 : ¬ yd_c Y (64 * r + j) = 0 := fun e0 => k ((zn_le (a := yd_c Y (64 * r + j)) (b := 0) (by omega) (by decide)).mpr (by omega))
      refine ⟨n - 1, by omega, rfl, rfl, rfl, rfl, j + 1, by omega, zn_one j, ?_⟩
      rw [hnz, if_neg h0]
      exact zn_add _ 1
theorem nz_row {c : Nat → Nat} : ∀ r : Nat, nz c 0 (64 * (r + 1)) = nz c 0 (64 * r) + nz c (64 * r) 64 := fun r => by
  have := nz_app (c := c) (b := 0) (k := 64 * r) 64
  rw [show 64 * (r + 1) = 64 * r + 64 by omega, this, Nat.zero_add]
/-- all dark stones -/
theorem s_dark (h : SM G M rl o S P q Y) (hv : ∀ p, yd_c Y p < 6) {post : gS → mS → Int32 → Prop} (hp : post G M (zn (dk (yd_c Y)))) : n_X10_dark b G M o post := by
  unfold n_X10_dark
  refine ⟨fun n u G1 M1 v1 v2 => u = (0, 0) ∧ G1 = G ∧ M1 = M ∧ ∃ j, n + j = 64 ∧ v2 = zn j ∧ v1 = zn (nz (yd_c Y) 0 (64 * j)), 64, ⟨rfl, rfl, rfl, 0, rfl, rfl, rfl⟩, ?_⟩
  rintro n u G1 M1 v1 v2 ⟨rfl, rfl, rfl, j, hj, rfl, rfl⟩
  unfold nb_X10_dark_4
  by_cases e : j = 64
  · subst e
    exact i_t ((zn_le (a := 64) (b := 64) (by decide) (by decide)).mpr (by decide)) hp
  · refine i_f (fun k => e (by have := (zn_le (a := 64) (b := j) (by decide) (by omega)).mp k; omega)) (i_ca0 uL0 (s_darkIn h hv (by omega) (i_bd (i_bd ?_))))
    refine ⟨n - 1, by omega, rfl, rfl, rfl, j + 1, by omega, zn_one j, ?_⟩
    rw [nz_row]
    exact zn_add _ _
end SimRead
