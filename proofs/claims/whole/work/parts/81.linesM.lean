/-! the reference's parser: lines of rules, ants, stones -/
/-- the roles of a line's tokens, tests aside -/
def roRul (p m : Nat) (r : Nat → Nat) : Nat → Nat := fun j => if j = p + 1 then 1 else if p + 2 ≤ j ∧ j < p + 2 + m then 3 else r j
def roAnt (p : Nat) (r : Nat → Nat) : Nat → Nat := fun j => if j = p + 1 then 2 else if j = p + 3 then 4 else if j = p + 5 ∨ j = p + 6 then 5 else if j = p + 8 then 6 else r j
def roPnt (p : Nat) (r : Nat → Nat) : Nat → Nat := fun j => if j = p + 1 ∨ j = p + 2 then 7 else if j = p + 3 then 8 else r j
section LinesM
variable {G : gS} {ad : Nat → Nat} {T : Nat → Nat} {tl : Nat}
theorem MR_co {M : mS} {p d : Nat} {C : List Int32} {O : List Nat} {ro ro' : Nat → Nat} (h : MR ad M T tl p d C O ro) (e : ∀ j, ro' j = ro j) : MR ad M T tl p d C O ro' := by
  have : ro' = ro := funext e
  rw [this]
  exact h
theorem w_eaC {α : Type} (hA : Inj ad) (hS : Sh G ad) {M : mS} {p d : Nat} {C : List Int32} {O : List Nat} {ro : Nat → Nat} (h : MR ad M T tl p d C O ro) {t r0 : Nat} (ht : vK t) (h2 : 2 ≤ t) {c c2 : Int32} (hc : c = zn (kr t)) (hc2 : c2 = zn r0) {K : mS → Int32 → Option (mS × α)} {Q : mS → α → Prop} (H1 : kdT T tl p = t → ∀ M', MR ad M' T tl (p + 1) d C O (fun j => if j = p then r0 else ro j) → NFr ad M M' → p_cl (K M' 1) Q) (H2 : kdT T tl p ≠ t → ∀ M', MR ad M' T tl p d C O (fun j => if j = p then r0 else ro j) → NFr ad M M' → p_cl (K M' 0) Q) : p_cl (o_cl (m_X12_eatAs G M (ad 70) c c2) K) Q := by
  rw [hc, hc2]
  refine c_clm (w_eatAs hA hS h ht h2) ?_
  rintro M1 r ⟨a, b, f⟩
  by_cases k : kdT T tl p = t
  · obtain ⟨rfl, h1⟩ := a k
    exact H1 k M1 h1 f
  · obtain ⟨rfl, h1⟩ := b k
    exact H2 k M1 h1 f
theorem w_e1C {α : Type} (hA : Inj ad) (hS : Sh G ad) {M : mS} {p d : Nat} {C : List Int32} {O : List Nat} {ro : Nat → Nat} (h : MR ad M T tl p d C O ro) {a b r0 : Nat} (ha : a < 33) (hb : b < 33) {c c1 c2 : Int32} (hc : c = zn a) (hc1 : c1 = zn b) (hc2 : c2 = zn r0) {K : mS → Int32 → Option (mS × α)} {Q : mS → α → Prop} (H1 : (200 + a ≤ kdT T tl p ∧ kdT T tl p ≤ 200 + b) → ∀ M', MR ad M' T tl (p + 1) d C O (fun j => if j = p then r0 else ro j) → NFr ad M M' → p_cl (K M' 1) Q) (H2 : ¬ (200 + a ≤ kdT T tl p ∧ kdT T tl p ≤ 200 + b) → ∀ M', MR ad M' T tl p d C O (fun j => if j = p then r0 else ro j) → NFr ad M M' → p_cl (K M' 0) Q) : p_cl (o_cl (m_X12_eatOne G M (ad 70) c c1 c2) K) Q := by
  rw [hc, hc1, hc2]
  refine c_clm (w_eatOne hA hS h ha hb) ?_
  rintro M1 r ⟨x, y, f⟩
  by_cases k : 200 + a ≤ kdT T tl p ∧ kdT T tl p ≤ 200 + b
  · obtain ⟨rfl, h1⟩ := x k
    exact H1 k M1 h1 f
  · obtain ⟨rfl, h1⟩ := y k
    exact H2 k M1 h1 f
/-- what the reading of a line comes to -/
def PostN (ad : Nat → Nat) (T : Nat → Nat) (tl : Nat) (C : List Int32) (O : List Nat) (ro : Nat → Nat) (M : mS) (x : Option (mS × Int32)) (r : Bool × Nat) : Prop := p_cl x (fun M' v => NFr ad M M' ∧ (r.1 = true → v = 1 ∧ MR ad M' T tl r.2 0 C O ro) ∧ (r.1 = false → v = 0 ∧ ∃ d' C' O' ro', MR ad M' T tl r.2 d' C' O' ro'))
theorem PN_no {M M' : mS} {C : List Int32} {O : List Nat} {ro : Nat → Nat} {q d' : Nat} {C' : List Int32} {O' : List Nat} {ro' : Nat → Nat} (h : MR ad M' T tl q d' C' O' ro') (hF : NFr ad M M') : PostN ad T tl C O ro M (o_ck ((0 : Int32) = 0 ∨ (0 : Int32) = 1) (some (M', (0 : Int32)))) (false, q) := c_ck (Or.inl rfl) (c_some ⟨hF, fun g => absurd (show false = true from g) (by decide), fun _ => ⟨rfl, _, _, _, _, h⟩⟩)
theorem PN_ye {M M' : mS} {C : List Int32} {O : List Nat} {ro ro' : Nat → Nat} {q : Nat} (h : MR ad M' T tl q 0 C O ro') (hF : NFr ad M M') (e : ∀ j, ro j = ro' j) : PostN ad T tl C O ro M (o_ck ((1 : Int32) = 0 ∨ (1 : Int32) = 1) (some (M', (1 : Int32)))) (true, q) := c_ck (Or.inr rfl) (c_some ⟨hF, fun _ => ⟨rfl, MR_co h e⟩, fun g => absurd (show true = false from g) (by decide)⟩)
theorem nTu_0 {kd : Nat → Nat} {q : Nat} (h : ¬ qTurn (kd q) = true) : ∀ f, nTu kd f q = 0 := by
  intro f
  cases f with
  | zero => rfl
  | succ f => rw [nTu, if_neg h]
theorem w_turns (hA : Inj ad) (hS : Sh G ad) {C : List Int32} {O : List Nat} : ∀ (n f : Nat) (M0 M : mS) (ro ro0 : Nat → Nat) (q : Nat), nT T tl < n + q → n < f → NFr ad M0 M → MR ad M T tl q 0 C O ro → (∀ j, ro0 j = if q ≤ j ∧ j < q + nTu (kdT T tl) n q then 3 else ro j) → PostN ad T tl C O ro0 M0 (m_X12_isRuleLine_42 G (ad 70) f M) (true, q + nTu (kdT T tl) n q) := by
  intro n
  induction n with
  | zero =>
    intro f M0 M ro ro0 q hq hf hF h e
    have := h.2.1.2.1
    omega
  | succ n ih =>
    intro f M0 M ro ro0 q hq hf hF h e
    obtain ⟨f, rfl⟩ : ∃ g, f = g + 1 := ⟨f - 1, by omega⟩
    rw [m_X12_isRuleLine_42, show m_X12_isWordOf G M (ad 70) 1 4 = _ from w_word hS h (a := 1) (b := 4) (by decide) (by decide)]
    have en : nTu (kdT T tl) (n + 1) q = if qTurn (kdT T tl q) then nTu (kdT T tl) n (q + 1) + 1 else 0 := rfl
    refine c_cl (c_some ?_)
    by_cases k : 200 + 1 ≤ kdT T tl q ∧ kdT T tl q ≤ 200 + 4
    · rw [if_pos k]
      rw [if_pos (qTurn_t.mpr k)] at en
      refine c_f (by decide) (w_e1C hA hS h (a := 1) (b := 4) (r0 := 3) (by decide) (by decide) rfl rfl rfl (fun _ M1 h1 f1 => ?_) (fun k2 => absurd k k2))
      rw [en, show q + (nTu (kdT T tl) n (q + 1) + 1) = q + 1 + nTu (kdT T tl) n (q + 1) by omega]
      refine ih f M0 M1 _ ro0 (q + 1) (by omega) (by omega) (NFr_tr hF f1) h1 (fun j => ?_)
      rw [e j, en]
      by_cases e1 : j = q
      · rw [if_pos (by omega), if_neg (by omega), if_pos e1]
      · rw [if_neg e1]
        by_cases e2 : q + 1 ≤ j ∧ j < q + 1 + nTu (kdT T tl) n (q + 1)
        · rw [if_pos e2, if_pos (by omega)]
        · rw [if_neg e2, if_neg (by omega)]
    · rw [if_neg k]
      rw [if_neg (fun x => k (qTurn_t.mp x))] at en
      rw [en]
      refine c_t rfl (PN_ye h hF (fun j => ?_))
      rw [e j, en, if_neg (by omega)]
theorem w_rule (hA : Inj ad) (hS : Sh G ad) {M : mS} {C : List Int32} {O : List Nat} {ro : Nat → Nat} {p : Nat} (h : MR ad M T tl p 0 C O ro) (hp : p < nT T tl) : PostN ad T tl C O (roRul p (nTu (kdT T tl) 400 (p + 2)) ro) M (m_X12_isRuleLine G M (ad 70)) (pRul (kdT T tl) p) := by
  have hn := nT_le (T := T) (tl := tl)
  unfold m_X12_isRuleLine pRul m_X12_isRuleLine_40
  obtain ⟨h1, f1⟩ := MR_nx hA h hp
  refine c_wI (w_eaC hA hS h1 (t := 2) (r0 := 1) (by unfold vK; decide) (by decide) (by decide) rfl (fun k M2 h2 f2 => ?_) (fun k M2 h2 f2 => ?_))
  · rw [if_pos k]
    have e4 : nTu (kdT T tl) 400 (p + 2) = if qTurn (kdT T tl (p + 2)) then nTu (kdT T tl) 399 (p + 3) + 1 else 0 := rfl
    have e3 : nTu (kdT T tl) 399 (p + 3) = if qTurn (kdT T tl (p + 3)) then nTu (kdT T tl) 398 (p + 4) + 1 else 0 := rfl
    refine c_f (by decide) (w_e1C hA hS h2 (a := 1) (b := 4) (r0 := 3) (by decide) (by decide) rfl rfl rfl (fun k3 M3 h3 f3 => ?_) (fun k3 M3 h3 f3 => ?_))
    · rw [if_pos (qTurn_t.mpr k3)] at e4
      refine c_f (by decide) (w_e1C hA hS h3 (a := 1) (b := 4) (r0 := 3) (by decide) (by decide) rfl rfl rfl (fun k4 M4 h4 f4 => ?_) (fun k4 M4 h4 f4 => ?_))
      · rw [if_pos (qTurn_t.mpr k4)] at e3
        rw [e4, e3, show decide (2 ≤ nTu (kdT T tl) 398 (p + 4) + 1 + 1) = true from decide_eq_true (by omega), show p + 2 + (nTu (kdT T tl) 398 (p + 4) + 1 + 1) = p + 4 + nTu (kdT T tl) 398 (p + 4) by omega]
        refine c_f (by decide) (w_turns hA hS 398 fu M M4 _ _ (p + 4) (by omega) (by unfold fu; omega) (NFr_tr f1 (NFr_tr f2 (NFr_tr f3 f4))) h4 (fun j => ?_))
        unfold roRul
        generalize nTu (kdT T tl) 398 (p + 4) = m
        (repeat' split) <;> omega
      · rw [if_neg (fun x => k4 (qTurn_t.mp x))] at e3
        rw [e4, e3, show decide (2 ≤ 0 + 1) = false from rfl]
        exact c_t rfl (PN_no h4 (NFr_tr f1 (NFr_tr f2 (NFr_tr f3 f4))))
    · rw [if_neg (fun x => k3 (qTurn_t.mp x))] at e4
      rw [e4, show decide (2 ≤ 0) = false from rfl]
      exact c_t rfl (PN_no h3 (NFr_tr f1 (NFr_tr f2 f3)))
  · rw [if_neg k]
    exact c_t rfl (PN_no h2 (NFr_tr f1 f2))
theorem w_ant (hA : Inj ad) (hS : Sh G ad) {M : mS} {C : List Int32} {O : List Nat} {ro : Nat → Nat} {p : Nat} (h : MR ad M T tl p 0 C O ro) (hp : p < nT T tl) : PostN ad T tl C O (roAnt p ro) M (m_X12_isAntLine G M (ad 70)) (pPre (kdT T tl) antQ (p + 1)) := by
  unfold m_X12_isAntLine antQ m_X12_isAntLine_94
  obtain ⟨h1, f1⟩ := MR_nx hA h hp
  refine c_wI (w_eaC hA hS h1 (t := 2) (r0 := 2) (by unfold vK; decide) (by decide) (by decide) rfl (fun k M2 h2 f2 => ?_) (fun k M2 h2 f2 => ?_))
  rotate_left
  · rw [pPre, if_neg (fun q => k (eQ_t.mp q))]
    exact c_t rfl (PN_no h2 (NFr_tr f1 f2))
  rw [pPre, if_pos (eQ_t.mpr k)]
  have F := NFr_tr f1 f2
  clear f1 f2
  refine c_f (by decide) (w_etC hA hS h2 (t := 206) (vK_w (by decide)) (by decide) (by decide) (fun k M3 h3 f3 => ?_) (fun k M3 h3 f3 => ?_))
  rotate_left
  · rw [pPre, if_neg (fun q => k (eQ_t.mp q))]
    exact c_t rfl (PN_no h3 (NFr_tr F f3))
  rw [pPre, if_pos (eQ_t.mpr k)]
  have F := NFr_tr F f3
  refine c_f (by decide) (w_eaC hA hS h3 (t := 2) (r0 := 4) (by unfold vK; decide) (by decide) (by decide) rfl (fun k M4 h4 f4 => ?_) (fun k M4 h4 f4 => ?_))
  rotate_left
  · rw [pPre, if_neg (fun q => k (eQ_t.mp q))]
    exact c_t rfl (PN_no h4 (NFr_tr F f4))
  rw [pPre, if_pos (eQ_t.mpr k)]
  have F := NFr_tr F f4
  refine c_f (by decide) (w_etC hA hS h4 (t := 207) (vK_w (by decide)) (by decide) (by decide) (fun k M5 h5 f5 => ?_) (fun k M5 h5 f5 => ?_))
  rotate_left
  · rw [pPre, if_neg (fun q => k (eQ_t.mp q))]
    exact c_t rfl (PN_no h5 (NFr_tr F f5))
  rw [pPre, if_pos (eQ_t.mpr k)]
  have F := NFr_tr F f5
  refine c_f (by decide) (w_eaC hA hS h5 (t := 3) (r0 := 5) (by unfold vK; decide) (by decide) (by decide) rfl (fun k M6 h6 f6 => ?_) (fun k M6 h6 f6 => ?_))
  rotate_left
  · rw [pPre, if_neg (fun q => k (eQ_t.mp q))]
    exact c_t rfl (PN_no h6 (NFr_tr F f6))
  rw [pPre, if_pos (eQ_t.mpr k)]
  have F := NFr_tr F f6
  refine c_f (by decide) (w_eaC hA hS h6 (t := 3) (r0 := 5) (by unfold vK; decide) (by decide) (by decide) rfl (fun k M7 h7 f7 => ?_) (fun k M7 h7 f7 => ?_))
  rotate_left
  · rw [pPre, if_neg (fun q => k (eQ_t.mp q))]
    exact c_t rfl (PN_no h7 (NFr_tr F f7))
  rw [pPre, if_pos (eQ_t.mpr k)]
  have F := NFr_tr F f7
  refine c_f (by decide) (w_etC hA hS h7 (t := 208) (vK_w (by decide)) (by decide) (by decide) (fun k M8 h8 f8 => ?_) (fun k M8 h8 f8 => ?_))
  rotate_left
  · rw [pPre, if_neg (fun q => k (eQ_t.mp q))]
    exact c_t rfl (PN_no h8 (NFr_tr F f8))
  rw [pPre, if_pos (eQ_t.mpr k)]
  have F := NFr_tr F f8
  refine c_f (by decide) (w_e1C hA hS h8 (a := 9) (b := 12) (r0 := 6) (by decide) (by decide) rfl rfl rfl (fun k M9 h9 f9 => ?_) (fun k M9 h9 f9 => ?_))
  rotate_left
  · rw [pPre, if_neg (fun q => k (qSide_t.mp q))]
    exact c_t rfl (PN_no h9 (NFr_tr F f9))
  rw [pPre, if_pos (qSide_t.mpr k), pPre]
  refine c_f (by decide) (PN_ye h9 (NFr_tr F f9) (fun j => ?_))
  unfold roAnt
  (repeat' split) <;> omega
theorem w_paint (hA : Inj ad) (hS : Sh G ad) {M : mS} {C : List Int32} {O : List Nat} {ro : Nat → Nat} {p : Nat} (h : MR ad M T tl p 0 C O ro) (hp : p < nT T tl) : PostN ad T tl C O (roPnt p ro) M (m_X12_isPaintLine G M (ad 70)) (pPre (kdT T tl) paintQ (p + 1)) := by
  unfold m_X12_isPaintLine paintQ m_X12_isPaintLine_47
  obtain ⟨h1, f1⟩ := MR_nx hA h hp
  refine c_wI (w_eaC hA hS h1 (t := 3) (r0 := 7) (by unfold vK; decide) (by decide) (by decide) rfl (fun k M2 h2 f2 => ?_) (fun k M2 h2 f2 => ?_))
  rotate_left
  · rw [pPre, if_neg (fun q => k (eQ_t.mp q))]
    exact c_t rfl (PN_no h2 (NFr_tr f1 f2))
  rw [pPre, if_pos (eQ_t.mpr k)]
  have F := NFr_tr f1 f2
  refine c_f (by decide) (w_eaC hA hS h2 (t := 3) (r0 := 7) (by unfold vK; decide) (by decide) (by decide) rfl (fun k M6 h6 f6 => ?_) (fun k M6 h6 f6 => ?_))
  rotate_left
  · rw [pPre, if_neg (fun q => k (eQ_t.mp q))]
    exact c_t rfl (PN_no h6 (NFr_tr F f6))
  rw [pPre, if_pos (eQ_t.mpr k)]
  have F := NFr_tr F f6
  refine c_f (by decide) (w_eaC hA hS h6 (t := 3) (r0 := 8) (by unfold vK; decide) (by decide) (by decide) rfl (fun k M7 h7 f7 => ?_) (fun k M7 h7 f7 => ?_))
  rotate_left
  · rw [pPre, if_neg (fun q => k (eQ_t.mp q))]
    exact c_t rfl (PN_no h7 (NFr_tr F f7))
  rw [pPre, if_pos (eQ_t.mpr k), pPre]
  refine c_f (by decide) (PN_ye h7 (NFr_tr F f7) (fun j => ?_))
  unfold roPnt
  (repeat' split) <;> omega
end LinesM
