/-! the reference's parser: what it holds, and its small words -/
def vK (k : Nat) : Prop := k = 0 ∨ k = 1 ∨ k = 2 ∨ k = 3 ∨ k = 128 ∨ k = 129 ∨ (200 ≤ k ∧ k < 233) ∨ sB_ k = true
theorem vK_T {T : Nat → Nat} {tl q : Nat} : vK (kdT T tl q) := by
  unfold vK
  by_cases h : q < nT T tl
  · rw [kdT_in h]
    exact kd_kinds
  · unfold kdT
    rw [if_neg h]
    split
    · exact Or.inr (Or.inl rfl)
    · exact Or.inl rfl
theorem kr_big {k : Nat} (h : vK k) : kr k < 1000 := by
  unfold vK at h
  unfold kr
  rw [sB_t] at h
  (repeat' split) <;> omega
theorem kr_inj {k t : Nat} (h : vK k) (g : vK t) : kr k = kr t ↔ k = t := by
  constructor
  · intro e
    unfold vK at h g
    rw [sB_t] at h g
    unfold kr at e
    (repeat' split at e) <;> omega
  · intro e; rw [e]
/-- an operation with its token, as it is put at first -/
def aC (T : Nat → Nat) (tl : Nat) (o : sO) : aO := (o.1, if o.1 = 3 then zn (numT T tl o.2) else zn o.2)
def enT (T : Nat → Nat) (tl : Nat) (L : List sO) : List Int32 := encL (L.map (aC T tl))
theorem enT_app {T : Nat → Nat} {tl : Nat} {L K : List sO} : enT T tl (L ++ K) = enT T tl L ++ enT T tl K := by
  unfold enT
  rw [List.map_append, encL_app]
theorem enT_1 {T : Nat → Nat} {tl : Nat} {o : sO} : enT T tl [o] = enc (aC T tl o) := by
  show enc (aC T tl o) ++ [] = _
  rw [List.append_nil]
theorem enc_le2 (o : aO) : (enc o).length ≤ 2 := by
  unfold enc
  split
  · exact (by decide : 1 ≤ 2)
  · exact Nat.le_refl 2
theorem enT_len {T : Nat → Nat} {tl : Nat} : ∀ L : List sO, (enT T tl L).length ≤ 2 * L.length := by
  intro L
  induction L with
  | nil => exact Nat.le_refl 0
  | cons o L ih =>
    show (enc (aC T tl o) ++ enT T tl L).length ≤ 2 * (L.length + 1)
    rw [List.length_append]
    have := enc_le2 (aC T tl o)
    omega
/-- where the ants stand in what is put -/
def opT (T : Nat → Nat) (tl : Nat) : Nat → List sO → List Nat
  | _, [] => []
  | b, o :: L => (if isA o.1 then [b + 1] else []) ++ opT T tl (b + (enc (aC T tl o)).length) L
theorem opT_app {T : Nat → Nat} {tl : Nat} : ∀ (L K : List sO) (b : Nat), opT T tl b (L ++ K) = opT T tl b L ++ opT T tl (b + (enT T tl L).length) K := by
  intro L
  induction L with
  | nil => intro K b; rfl
  | cons o L ih =>
    intro K b
    show (if isA o.1 then [b + 1] else []) ++ opT T tl (b + (enc (aC T tl o)).length) (L ++ K) = ((if isA o.1 then [b + 1] else []) ++ opT T tl (b + (enc (aC T tl o)).length) L) ++ opT T tl (b + (enc (aC T tl o) ++ enT T tl L).length) K
    rw [ih, List.append_assoc, List.length_append, Nat.add_assoc]
theorem opT_len {T : Nat → Nat} {tl : Nat} : ∀ (L : List sO) (b : Nat), (opT T tl b L).length ≤ L.length := by
  intro L
  induction L with
  | nil => intro b; exact Nat.le_refl 0
  | cons o L ih =>
    intro b
    show ((if isA o.1 then [b + 1] else []) ++ opT T tl (b + (enc (aC T tl o)).length) L).length ≤ L.length + 1
    rw [List.length_append]
    have := ih (b + (enc (aC T tl o)).length)
    split
    · show 1 + _ ≤ _; omega
    · show 0 + _ ≤ _; omega
/-- the roles that operations give -/
def roO (r : Nat → Nat) (o : sO) : Nat → Nat := if isA o.1 then fun j => if j = o.2 then 14 else r j else r
def roL (L : List sO) (r : Nat → Nat) : Nat → Nat := L.foldl roO r
theorem roL_app {L K : List sO} {r : Nat → Nat} : roL (L ++ K) r = roL K (roL L r) := List.foldl_append
/-- the tokens, the place, the depth, what is put, where ants stand in it, the roles -/
def MR (ad : Nat → Nat) (M : mS) (T : Nat → Nat) (tl p d : Nat) (C : List Int32) (O : List Nat) (ro : Nat → Nat) : Prop :=
  (mT ad M T tl ∧ (∀ j, j ≤ nT T tl → mI M (ad 72) j = zn (kr (kdT T tl j)) ∧ mI M (ad 73) j = zn (tkP T tl j)) ∧ ∀ j, j < nT T tl → mI M (ad 74) j = zn (lnT T tl j)) ∧
  (mI M (ad 70) 9 = zn p ∧ p ≤ nT T tl ∧ mI M (ad 70) 10 = zn d) ∧
  (mI M (ad 126) 19 = zn C.length ∧ ∀ j, j < C.length → mI M (ad 140) j = C.getD j 0) ∧
  (mI M (ad 126) 21 = zn O.length ∧ ∀ j, j < O.length → mI M (ad 141) j = zn (O.getD j 0)) ∧
  ∀ j, j ≤ nT T tl → mI M (ad 75) j = zn (ro j)
/-- what may change -/
def NF (ad : Nat → Nat) (b : Nat) : Prop := b = ad 70 ∨ b = ad 75 ∨ b = ad 126 ∨ Bk ad 140 142 b
def NFr (ad : Nat → Nat) (M M' : mS) : Prop := Fr (NF ad) M M' ∧ (∀ i, i ≠ 9 → i ≠ 10 → mI M' (ad 70) i = mI M (ad 70) i) ∧ ∀ i, i ≠ 19 → i ≠ 21 → mI M' (ad 126) i = mI M (ad 126) i
theorem NFr_rf {ad : Nat → Nat} {M : mS} : NFr ad M M := ⟨Fr_rf, fun _ _ _ => rfl, fun _ _ _ => rfl⟩
theorem NFr_tr {ad : Nat → Nat} {M M1 M2 : mS} (h : NFr ad M M1) (g : NFr ad M1 M2) : NFr ad M M2 := ⟨Fr_tr h.1 g.1, fun i a b => (g.2.1 i a b).trans (h.2.1 i a b), fun i a b => (g.2.2 i a b).trans (h.2.2 i a b)⟩
section PrimM
variable {G : gS} {ad : Nat → Nat} {M : mS} {T : Nat → Nat} {tl p d : Nat} {C : List Int32} {O : List Nat} {ro : Nat → Nat}
theorem NFr_70 (hA : Inj ad) {i : Nat} {v : Int32} (h : i = 9 ∨ i = 10) : NFr ad M (wI M (ad 70) i v) := ⟨Fr_wI Fr_rf (Or.inl rfl), fun j h1 h2 => wI_ne hA (Or.inr (by omega)), fun j h1 h2 => wI_ne hA (Or.inl (by decide))⟩
theorem NFr_126 (hA : Inj ad) {i : Nat} {v : Int32} (h : i = 19 ∨ i = 21) : NFr ad M (wI M (ad 126) i v) := ⟨Fr_wI Fr_rf (Or.inr (Or.inr (Or.inl rfl))), fun j h1 h2 => wI_ne hA (Or.inl (by decide)), fun j h1 h2 => wI_ne hA (Or.inr (by omega))⟩
theorem NFr_x (hA : Inj ad) {b i : Nat} {v : Int32} (h : b = 75 ∨ b = 140 ∨ b = 141) : NFr ad M (wI M (ad b) i v) := by
  refine ⟨Fr_wI Fr_rf ?_, fun j h1 h2 => wI_ne hA (Or.inl (by omega)), fun j h1 h2 => wI_ne hA (Or.inl (by omega))⟩
  rcases h with rfl | rfl | rfl
  · exact Or.inr (Or.inl rfl)
  · exact Or.inr (Or.inr (Or.inr (Bk_in (by decide) (by decide))))
  · exact Or.inr (Or.inr (Or.inr (Bk_in (by decide) (by decide))))
/-- the place is set -/
theorem MR_at (hA : Inj ad) (h : MR ad M T tl p d C O ro) {q : Nat} (hq : q ≤ nT T tl) : MR ad (wI M (ad 70) 9 (zn q)) T tl q d C O ro := by
  obtain ⟨⟨⟨a1, a2⟩, a3, a4⟩, ⟨b1, b2, b3⟩, ⟨c1, c2⟩, ⟨d1, d2⟩, e1⟩ := h
  refine ⟨⟨⟨?_, fun k hk => ?_⟩, fun j hj => ?_, fun j hj => ?_⟩, ⟨wI_eq, hq, ?_⟩, ⟨?_, fun j hj => ?_⟩, ⟨?_, fun j hj => ?_⟩, fun j hj => ?_⟩
  · rw [wI_ne hA (Or.inr (by decide))]; exact a1
  · rw [wI_ne hA (Or.inl (by decide))]; exact a2 k hk
  · rw [wI_ne hA (Or.inl (by decide)), wI_ne hA (Or.inl (by decide))]; exact a3 j hj
  · rw [wI_ne hA (Or.inl (by decide))]; exact a4 j hj
  · rw [wI_ne hA (Or.inr (by decide))]; exact b3
  · rw [wI_ne hA (Or.inl (by decide))]; exact c1
  · rw [wI_ne hA (Or.inl (by decide))]; exact c2 j hj
  · rw [wI_ne hA (Or.inl (by decide))]; exact d1
  · rw [wI_ne hA (Or.inl (by decide))]; exact d2 j hj
  · rw [wI_ne hA (Or.inl (by decide))]; exact e1 j hj
/-- the depth is set -/
theorem MR_dp (hA : Inj ad) (h : MR ad M T tl p d C O ro) {e : Nat} : MR ad (wI M (ad 70) 10 (zn e)) T tl p e C O ro := by
  obtain ⟨⟨⟨a1, a2⟩, a3, a4⟩, ⟨b1, b2, b3⟩, ⟨c1, c2⟩, ⟨d1, d2⟩, e1⟩ := h
  refine ⟨⟨⟨?_, fun k hk => ?_⟩, fun j hj => ?_, fun j hj => ?_⟩, ⟨?_, b2, wI_eq⟩, ⟨?_, fun j hj => ?_⟩, ⟨?_, fun j hj => ?_⟩, fun j hj => ?_⟩
  · rw [wI_ne hA (Or.inr (by decide))]; exact a1
  · rw [wI_ne hA (Or.inl (by decide))]; exact a2 k hk
  · rw [wI_ne hA (Or.inl (by decide)), wI_ne hA (Or.inl (by decide))]; exact a3 j hj
  · rw [wI_ne hA (Or.inl (by decide))]; exact a4 j hj
  · rw [wI_ne hA (Or.inr (by decide))]; exact b1
  · rw [wI_ne hA (Or.inl (by decide))]; exact c1
  · rw [wI_ne hA (Or.inl (by decide))]; exact c2 j hj
  · rw [wI_ne hA (Or.inl (by decide))]; exact d1
  · rw [wI_ne hA (Or.inl (by decide))]; exact d2 j hj
  · rw [wI_ne hA (Or.inl (by decide))]; exact e1 j hj
/-- a role is given -/
theorem MR_ro (hA : Inj ad) (h : MR ad M T tl p d C O ro) {t r : Nat} : MR ad (wI M (ad 75) t (zn r)) T tl p d C O (fun j => if j = t then r else ro j) := by
  obtain ⟨⟨⟨a1, a2⟩, a3, a4⟩, ⟨b1, b2, b3⟩, ⟨c1, c2⟩, ⟨d1, d2⟩, e1⟩ := h
  refine ⟨⟨⟨?_, fun k hk => ?_⟩, fun j hj => ?_, fun j hj => ?_⟩, ⟨?_, b2, ?_⟩, ⟨?_, fun j hj => ?_⟩, ⟨?_, fun j hj => ?_⟩, fun j hj => ?_⟩
  · rw [wI_ne hA (Or.inl (by decide))]; exact a1
  · rw [wI_ne hA (Or.inl (by decide))]; exact a2 k hk
  · rw [wI_ne hA (Or.inl (by decide)), wI_ne hA (Or.inl (by decide))]; exact a3 j hj
  · rw [wI_ne hA (Or.inl (by decide))]; exact a4 j hj
  · rw [wI_ne hA (Or.inl (by decide))]; exact b1
  · rw [wI_ne hA (Or.inl (by decide))]; exact b3
  · rw [wI_ne hA (Or.inl (by decide))]; exact c1
  · rw [wI_ne hA (Or.inl (by decide))]; exact c2 j hj
  · rw [wI_ne hA (Or.inl (by decide))]; exact d1
  · rw [wI_ne hA (Or.inl (by decide))]; exact d2 j hj
  · show _ = zn (if j = t then r else ro j)
    by_cases e : j = t
    · rw [if_pos e, e, wI_eq]
    · rw [wI_ne hA (Or.inr e), if_neg e]; exact e1 j hj
theorem w_is (hS : Sh G ad) (h : MR ad M T tl p d C O ro) {t : Nat} (ht : vK t) : m_X12_is G M (ad 70) (zn (kr t)) = some (M, if kdT T tl p = t then 1 else 0) := by
  obtain ⟨⟨_, a3, _⟩, ⟨b1, b2, _⟩, _⟩ := h
  have hn := nT_le (T := T) (tl := tl)
  refine cl_eq ?_
  unfold m_X12_is
  rw [b1]
  refine c_rf (sh_m4 hS) (c_ix (by rw [sh_mn4 hS]; exact zn_in (by omega) (by decide)) ?_)
  rw [zn_nat (by omega), (a3 p b2).1]
  have k1 := kr_big (vK_T (T := T) (tl := tl) (q := p))
  have k2 := kr_big ht
  refine c_if (fun g => ?_) (fun g => ?_)
  · rw [zn_inj (by omega) (by omega), kr_inj vK_T ht] at g
    exact c_ck (Or.inr rfl) (c_some ⟨rfl, by rw [if_pos g]⟩)
  · rw [zn_inj (by omega) (by omega), kr_inj vK_T ht] at g
    exact c_ck (Or.inl rfl) (c_some ⟨rfl, by rw [if_neg g]⟩)
theorem w_sign (hS : Sh G ad) (h : MR ad M T tl p d C O ro) {t : Nat} (ht : vK t) {c : Int32} (hc : (50 : Int32) + c = zn (kr t)) : m_X12_isSign G M (ad 70) c = some (M, if kdT T tl p = t then 1 else 0) := by
  rw [← w_is hS h ht, ← hc]
  rfl
theorem w_word (hS : Sh G ad) (h : MR ad M T tl p d C O ro) {a b : Nat} (ha : a < 33) (hb : b < 33) : m_X12_isWordOf G M (ad 70) (zn a) (zn b) = some (M, if 200 + a ≤ kdT T tl p ∧ kdT T tl p ≤ 200 + b then 1 else 0) := by
  obtain ⟨⟨_, a3, _⟩, ⟨b1, b2, _⟩, _⟩ := h
  have hn := nT_le (T := T) (tl := tl)
  refine cl_eq ?_
  unfold m_X12_isWordOf
  rw [b1]
  refine c_rf (sh_m4 hS) (c_ix (by rw [sh_mn4 hS]; exact zn_in (by omega) (by decide)) ?_)
  rw [zn_nat (by omega), (a3 p b2).1]
  have k1 := kr_big (vK_T (T := T) (tl := tl) (q := p))
  have kv := vK_T (T := T) (tl := tl) (q := p)
  generalize kdT T tl p = k at k1 kv
  have key : (a ≤ kr k ∧ kr k ≤ b) ↔ (200 + a ≤ k ∧ k ≤ 200 + b) := by
    unfold vK at kv
    rw [sB_t] at kv
    unfold kr
    (repeat' split) <;> omega
  unfold m_X12_isIn m_X12_isIn_14
  refine c_cl (c_if (fun g => ?_) (fun g => ?_))
  · rw [zn_lt (by omega) (by omega)] at g
    exact c_ck (Or.inl rfl) (c_some (c_ck (Or.inl rfl) (c_some ⟨rfl, by rw [if_neg (fun q => by have := key.mpr q; omega)]⟩)))
  rw [zn_lt (by omega) (by omega)] at g
  refine c_if (fun g2 => ?_) (fun g2 => ?_)
  · rw [zn_lt (by omega) (by omega)] at g2
    exact c_ck (Or.inl rfl) (c_some (c_ck (Or.inl rfl) (c_some ⟨rfl, by rw [if_neg (fun q => by have := key.mpr q; omega)]⟩)))
  rw [zn_lt (by omega) (by omega)] at g2
  exact c_ck (Or.inr rfl) (c_some (c_ck (Or.inr rfl) (c_some ⟨rfl, by rw [if_pos (key.mp ⟨by omega, by omega⟩)]⟩)))
/-- the place goes on by one -/
theorem MR_nx (hA : Inj ad) (h : MR ad M T tl p d C O ro) (hp : p < nT T tl) : MR ad (wI M (ad 70) 9 (mI M (ad 70) 9 + 1)) T tl (p + 1) d C O ro ∧ NFr ad M (wI M (ad 70) 9 (mI M (ad 70) 9 + 1)) := by
  rw [h.2.1.1, zn_one]
  exact ⟨MR_at hA h hp, NFr_70 hA (Or.inl rfl)⟩
theorem w_eat (hA : Inj ad) (hS : Sh G ad) (h : MR ad M T tl p d C O ro) {t : Nat} (ht : vK t) (h2 : 2 ≤ t) : p_cl (m_X12_eat G M (ad 70) (zn (kr t))) (fun M' r => (kdT T tl p = t → r = 1 ∧ MR ad M' T tl (p + 1) d C O ro) ∧ (kdT T tl p ≠ t → r = 0 ∧ MR ad M' T tl p d C O ro) ∧ NFr ad M M') := by
  unfold m_X12_eat
  rw [w_is hS h ht]
  refine c_cl (c_some ?_)
  by_cases k : kdT T tl p = t
  · rw [if_pos k]
    obtain ⟨a, b⟩ := MR_nx hA h (kdT_lt (by omega))
    exact c_f (by decide) (c_wI (c_ck (Or.inr rfl) (c_some ⟨fun _ => ⟨rfl, a⟩, fun q => absurd k q, b⟩)))
  · rw [if_neg k]
    exact c_t rfl (c_ck (Or.inl rfl) (c_some ⟨fun q => absurd q k, fun _ => ⟨rfl, h⟩, NFr_rf⟩))
theorem w_eatS (hA : Inj ad) (hS : Sh G ad) (h : MR ad M T tl p d C O ro) {t : Nat} (ht : vK t) (h2 : 2 ≤ t) {c : Int32} (hc : (50 : Int32) + c = zn (kr t)) : p_cl (m_X12_eatSign G M (ad 70) c) (fun M' r => (kdT T tl p = t → r = 1 ∧ MR ad M' T tl (p + 1) d C O ro) ∧ (kdT T tl p ≠ t → r = 0 ∧ MR ad M' T tl p d C O ro) ∧ NFr ad M M') := by
  unfold m_X12_eatSign
  rw [hc]
  refine c_clm (w_eat hA hS h ht h2) ?_
  rintro M1 r ⟨a, b, f⟩
  refine c_ck ?_ (c_some ⟨a, b, f⟩)
  by_cases k : kdT T tl p = t
  · exact Or.inr (a k).1
  · exact Or.inl (b k).1
theorem w_eatAs (hA : Inj ad) (hS : Sh G ad) (h : MR ad M T tl p d C O ro) {t r0 : Nat} (ht : vK t) (h2 : 2 ≤ t) : p_cl (m_X12_eatAs G M (ad 70) (zn (kr t)) (zn r0)) (fun M' r => (kdT T tl p = t → r = 1 ∧ MR ad M' T tl (p + 1) d C O (fun j => if j = p then r0 else ro j)) ∧ (kdT T tl p ≠ t → r = 0 ∧ MR ad M' T tl p d C O (fun j => if j = p then r0 else ro j)) ∧ NFr ad M M') := by
  have hn := nT_le (T := T) (tl := tl)
  have hp := h.2.1.2.1
  unfold m_X12_eatAs
  rw [h.2.1.1]
  refine c_rf (sh_m7 hS) (c_ix (by rw [sh_mn7 hS]; exact zn_in (by omega) (by decide)) (c_wI ?_))
  rw [zn_nat (by omega)]
  refine c_clm (w_eat hA hS (MR_ro hA h) ht h2) ?_
  rintro M1 r ⟨a, b, f⟩
  refine c_ck ?_ (c_some ⟨a, b, NFr_tr (NFr_x hA (Or.inl rfl)) f⟩)
  by_cases k : kdT T tl p = t
  · exact Or.inr (a k).1
  · exact Or.inl (b k).1
theorem w_eatOne (hA : Inj ad) (hS : Sh G ad) (h : MR ad M T tl p d C O ro) {a b r0 : Nat} (ha : a < 33) (hb : b < 33) : p_cl (m_X12_eatOne G M (ad 70) (zn a) (zn b) (zn r0)) (fun M' r => ((200 + a ≤ kdT T tl p ∧ kdT T tl p ≤ 200 + b) → r = 1 ∧ MR ad M' T tl (p + 1) d C O (fun j => if j = p then r0 else ro j)) ∧ (¬ (200 + a ≤ kdT T tl p ∧ kdT T tl p ≤ 200 + b) → r = 0 ∧ MR ad M' T tl p d C O (fun j => if j = p then r0 else ro j)) ∧ NFr ad M M') := by
  have hn := nT_le (T := T) (tl := tl)
  have hp := h.2.1.2.1
  unfold m_X12_eatOne
  rw [h.2.1.1]
  refine c_rf (sh_m7 hS) (c_ix (by rw [sh_mn7 hS]; exact zn_in (by omega) (by decide)) (c_wI ?_))
  rw [zn_nat (by omega)]
  have h1 := MR_ro hA h (t := p) (r := r0)
  rw [w_word hS h1 ha hb]
  refine c_cl (c_some ?_)
  by_cases k : 200 + a ≤ kdT T tl p ∧ kdT T tl p ≤ 200 + b
  · rw [if_pos k]
    obtain ⟨x, y⟩ := MR_nx hA h1 (kdT_lt (by omega))
    exact c_f (by decide) (c_wI (c_ck (Or.inr rfl) (c_some ⟨fun _ => ⟨rfl, x⟩, fun q => absurd k q, NFr_tr (NFr_x hA (Or.inl rfl)) y⟩)))
  · rw [if_neg k]
    exact c_t rfl (c_ck (Or.inl rfl) (c_some ⟨fun q => absurd q k, fun _ => ⟨rfl, h1⟩, NFr_x hA (Or.inl rfl)⟩))
theorem w_put (hA : Inj ad) (hq : gP G (ad 70) 12 = some (ad 126)) (hL : LSh G ad 126) (h : MR ad M T tl p d C O ro) (h8 : C.length < 800) {v : Int32} : p_cl (m_X12_put G M (ad 70) v) (fun M' _ => MR ad M' T tl p d (C ++ [v]) O ro ∧ NFr ad M M') := by
  obtain ⟨⟨⟨a1, a2⟩, a3, a4⟩, ⟨b1, b2, b3⟩, ⟨c1, c2⟩, ⟨d1, d2⟩, e1⟩ := h
  unfold m_X12_put
  refine c_rf hq (c_rf (l18 hL) (c_rf hq ?_))
  rw [c1]
  refine c_ix (by rw [ln14 hL]; exact zn_in h8 (by decide)) (c_wI (c_rf hq (c_wI (c_some ?_))))
  rw [zn_nat (by omega), wI_ne hA (show (126 : Nat) ≠ 126 + 14 ∨ (19 : Nat) ≠ C.length from Or.inl (by decide)), c1, zn_one]
  refine ⟨⟨⟨⟨?_, fun k hk => ?_⟩, fun j hj => ?_, fun j hj => ?_⟩, ⟨?_, b2, ?_⟩, ⟨?_, fun j hj => ?_⟩, ⟨?_, fun j hj => ?_⟩, fun j hj => ?_⟩, NFr_tr (NFr_x hA (Or.inr (Or.inl rfl))) (NFr_126 hA (Or.inl rfl))⟩
  · rw [wI_ne hA (Or.inl (by decide)), wI_ne hA (Or.inl (by decide))]; exact a1
  · rw [wI_ne hA (Or.inl (by decide)), wI_ne hA (Or.inl (by decide))]; exact a2 k hk
  · rw [wI_ne hA (Or.inl (by decide)), wI_ne hA (Or.inl (by decide)), wI_ne hA (Or.inl (by decide)), wI_ne hA (Or.inl (by decide))]; exact a3 j hj
  · rw [wI_ne hA (Or.inl (by decide)), wI_ne hA (Or.inl (by decide))]; exact a4 j hj
  · rw [wI_ne hA (Or.inl (by decide)), wI_ne hA (Or.inl (by decide))]; exact b1
  · rw [wI_ne hA (Or.inl (by decide)), wI_ne hA (Or.inl (by decide))]; exact b3
  · rw [wI_eq, List.length_append]; rfl
  · rw [List.length_append] at hj
    have hj : j < C.length + 1 := hj
    rw [wI_ne hA (Or.inl (by decide))]
    by_cases e : j = C.length
    · have := getD_app (a := C) (b := [v]) (j := 0) (d := 0)
      rw [Nat.add_zero] at this
      rw [e, this, wI_eq]
      rfl
    · have hlt : j < C.length := by omega
      rw [wI_ne hA (Or.inr e), c2 j hlt]
      simp [List.getD, List.getElem?_append_left hlt]
  · rw [wI_ne hA (Or.inr (by decide)), wI_ne hA (Or.inl (by decide))]; exact d1
  · rw [wI_ne hA (Or.inl (by decide)), wI_ne hA (Or.inl (by decide))]; exact d2 j hj
  · rw [wI_ne hA (Or.inl (by decide)), wI_ne hA (Or.inl (by decide))]; exact e1 j hj
/-- one deeper, and a token on -/
theorem w_deep (hA : Inj ad) (h : MR ad M T tl p d C O ro) (hd : d ≤ 8) (hp : p < nT T tl) : p_cl (m_X12_isDeeper G M (ad 70)) (fun M' r => (d < 8 → r = 1 ∧ MR ad M' T tl (p + 1) (d + 1) C O ro) ∧ (¬ d < 8 → r = 0 ∧ MR ad M' T tl p d C O ro) ∧ NFr ad M M') := by
  unfold m_X12_isDeeper
  rw [h.2.1.2.2]
  refine c_if (fun g => ?_) (fun g => ?_)
  · have g : d = 8 := (zn_lit (by omega) (by decide)).mp g
    exact c_ck (Or.inl rfl) (c_some ⟨fun q => by omega, fun _ => ⟨rfl, h⟩, NFr_rf⟩)
  · have g : ¬ d = 8 := fun q => g ((zn_lit (by omega) (by decide)).mpr q)
    rw [zn_one]
    have h1 := MR_dp hA h (e := d + 1)
    obtain ⟨x, y⟩ := MR_nx hA h1 hp
    exact c_wI (c_wI (c_ck (Or.inr rfl) (c_some ⟨fun _ => ⟨rfl, x⟩, fun q => absurd (show d < 8 by omega) q, NFr_tr (NFr_70 hA (Or.inr rfl)) y⟩)))
/-- the depth comes back -/
theorem MR_up (hA : Inj ad) (h : MR ad M T tl p (d + 1) C O ro) : MR ad (wI M (ad 70) 10 (mI M (ad 70) 10 - 1)) T tl p d C O ro ∧ NFr ad M (wI M (ad 70) 10 (mI M (ad 70) 10 - 1)) := by
  rw [h.2.1.2.2, zn_top]
  exact ⟨MR_dp hA h, NFr_70 hA (Or.inr rfl)⟩
end PrimM
