/-! the class's parser: lines -/
def pPre (kd : Nat → Nat) : List (Nat → Bool) → Nat → Bool × Nat
  | [], p => (true, p)
  | q :: l, p => if q (kd p) then pPre kd l (p + 1) else (false, p)
def eQ (n : Nat) (k : Nat) : Bool := k == n
theorem eQ_t {n k : Nat} : eQ n k = true ↔ k = n := by unfold eQ; rw [beq_iff_eq]
def nTu (kd : Nat → Nat) : Nat → Nat → Nat
  | 0, _ => 0
  | f + 1, q => if qTurn (kd q) then nTu kd f (q + 1) + 1 else 0
def pThen (T : Nat → Nat) (tl : Nat) (r : Bool × Nat) : Bool × Nat := if r.1 then ((pTest T tl r.2).1, (pTest T tl r.2).2.1) else r
def antQ : List (Nat → Bool) := [eQ 2, eQ 206, eQ 2, eQ 207, eQ 3, eQ 3, eQ 208, qSide]
def paintQ : List (Nat → Bool) := [eQ 3, eQ 3, eQ 3]
def washQ : List (Nat → Bool) := [eQ 3, eQ 215, eQ 3, eQ 219]
def faceQ : List (Nat → Bool) := [eQ 2, qSide, eQ 219]
def haltQ : List (Nat → Bool) := [eQ 2, eQ 219]
/-- a line: whether it is read, and where reading ends -/
def pRul (kd : Nat → Nat) (p : Nat) : Bool × Nat := if kd (p + 1) = 2 then (decide (2 ≤ nTu kd 400 (p + 2)), p + 2 + nTu kd 400 (p + 2)) else (false, p + 1)
def pLn (T : Nat → Nat) (tl p : Nat) : Bool × Nat :=
  if kdT T tl p = 200 then pRul (kdT T tl) p
  else if kdT T tl p = 205 then pPre (kdT T tl) antQ (p + 1)
  else if kdT T tl p = 213 then pPre (kdT T tl) paintQ (p + 1)
  else if kdT T tl p = 214 then pThen T tl (pPre (kdT T tl) washQ (p + 1))
  else if kdT T tl p = 216 then pThen T tl (pPre (kdT T tl) faceQ (p + 1))
  else if kdT T tl p = 217 ∨ kdT T tl p = 218 then pThen T tl (pPre (kdT T tl) haltQ (p + 1))
  else (false, p)
/-- what a line does -/
def sNew (o : Option Nat) (pl : Nat) (σ : aS) : aS := if o = none then σ else sC 2 pl σ
def sRul (T : Nat → Nat) (tl j : Nat) (σ : aS) : aS :=
  if pg_r (sgP σ) < 5 then (pRule (sgP σ), sgY σ, fun k => if k = pg_r (sgP σ) then keyT T tl j else sgN σ k, sgA σ, sgE (sNew (rulO T tl j σ) (tkP T tl j) σ), sgL (sNew (rulO T tl j σ) (tkP T tl j) σ))
  else sC 4 (tkP T tl j) (sNew (rulO T tl j σ) (tkP T tl j) σ)
def sTurn (T : Nat → Nat) (tl j : Nat) (σ : aS) : aS := if pg_z (sgP σ) (pg_r (sgP σ) - 1) < 6 then sSetP (pTurn (kdT T tl j - 201) (sgP σ)) σ else sC 4 (tkP T tl j) σ
def sTurns (T : Nat → Nat) (tl : Nat) : Nat → Nat → aS → aS
  | 0, _, σ => σ
  | m + 1, q, σ => sTurns T tl m (q + 1) (sTurn T tl q σ)
def sOrdr (T : Nat → Nat) (tl p : Nat) (σ : aS) : aS := if pg_o (sgP σ) < 20 then sSetP (pOrd (kdT T tl p) (sgP σ)) σ else sC 4 (tkP T tl p) σ
def sNums (f s : Nat) (σ : aS) : aS := sSetP (pNums f s (sgP σ)) σ
theorem sNew_5 (o : Option Nat) (pl : Nat) (σ : aS) : sgP (sNew o pl σ) = sgP σ ∧ sgY (sNew o pl σ) = sgY σ ∧ sgN (sNew o pl σ) = sgN σ ∧ sgA (sNew o pl σ) = sgA σ := by
  unfold sNew
  split
  · exact ⟨rfl, rfl, rfl, rfl⟩
  · exact sC_5 2 pl σ
theorem sRn_5 (lo hi n pl : Nat) (σ : aS) : sgP (sRn lo hi n pl σ) = sgP σ ∧ sgY (sRn lo hi n pl σ) = sgY σ ∧ sgN (sRn lo hi n pl σ) = sgN σ ∧ sgA (sRn lo hi n pl σ) = sgA σ := by
  unfold sRn
  split
  · exact ⟨rfl, rfl, rfl, rfl⟩
  · exact sC_5 5 pl σ
section Lines
variable {G : gS} {ad : Nat → Nat} {T : Nat → Nat} {tl : Nat}
def PostL (ad : Nat → Nat) (T : Nat → Nat) (tl : Nat) (M : mS) (x : Option (mS × Int32)) (r : Bool × Nat) (σ : aS) : Prop := p_cl x (fun M' v => Fr (PF ad) M M' ∧ (r.1 = true → v = 1 ∧ CR ad M' T tl r.2 σ) ∧ (r.1 = false → v = 0 ∧ ∃ σ', CR ad M' T tl r.2 σ'))
theorem PL_no {M M' : mS} {σ σ' : aS} {q : Nat} (h : CR ad M' T tl q σ') (hF : Fr (PF ad) M M') : PostL ad T tl M (o_ck ((0 : Int32) = 0 ∨ (0 : Int32) = 1) (some (M', (0 : Int32)))) (false, q) σ := c_ck (Or.inl rfl) (c_some ⟨hF, fun g => absurd (show false = true from g) (by decide), fun _ => ⟨rfl, σ', h⟩⟩)
theorem PL_ye {M M' : mS} {σ : aS} {q : Nat} (h : CR ad M' T tl q σ) (hF : Fr (PF ad) M M') : PostL ad T tl M (o_ck ((1 : Int32) = 0 ∨ (1 : Int32) = 1) (some (M', (1 : Int32)))) (true, q) σ := c_ck (Or.inr rfl) (c_some ⟨hF, fun _ => ⟨rfl, h⟩, fun g => absurd (show true = false from g) (by decide)⟩)
theorem PL_tr {M M1 : mS} {σ : aS} {x : Option (mS × Int32)} {r : Bool × Nat} (hF : Fr (PF ad) M M1) (h : PostL ad T tl M1 x r σ) : PostL ad T tl M x r σ := by
  refine c_mono h ?_
  rintro M' v ⟨a, b, c⟩
  exact ⟨Fr_tr hF a, b, c⟩
/-- when, and a test -/
theorem r_when (hA : Inj ad) (hS : Sh G ad) (hT : ∀ k, k < tl → T k < 256) {M : mS} {σ : aS} {q : Nat} (h : CR ad M T tl q σ) {X : mS → Option (mS × Int32)} (hX : ∀ M, X M = o_ck ((0 : Int32) = 0 ∨ (0 : Int32) = 1) (some (M, (0 : Int32)))) : PostL ad T tl M (o_cl (m_X2_take G M (ad 55) (219 : Int32)) (fun M26 r27 => (if r27 = 0 then X M26 else o_cl (m_X2_test G M26 (ad 55) (0 : Int32)) (fun M30 r31 => (if r31 = 0 then X M30 else o_ck ((1 : Int32) = 0 ∨ (1 : Int32) = 1) (some (M30, (1 : Int32)))))))) (pThen T tl (pPre (kdT T tl) [eQ 219] q)) (sOps T tl (pTest T tl (q + 1)).2.2 σ) := by
  refine c_clm (r_take hA hS hT h (k := 219) (by decide) (by decide)) ?_
  rintro M1 r ⟨a1, b1, f1⟩
  by_cases k1 : kdT T tl q = 219
  · obtain ⟨rfl, h1⟩ := a1 k1
    rw [pPre, if_pos (eQ_t.mpr k1), pPre]
    unfold pThen
    rw [if_pos (show (true, q + 1).1 = true from rfl)]
    refine c_f (by decide) (c_clm (r_test hA hS hT h1) ?_)
    rintro M2 v ⟨f2, t2, n2⟩
    show p_cl _ (fun M' v => Fr (PF ad) M M' ∧ ((pTest T tl (q + 1)).1 = true → v = 1 ∧ CR ad M' T tl (pTest T tl (q + 1)).2.1 _) ∧ ((pTest T tl (q + 1)).1 = false → v = 0 ∧ ∃ σ', CR ad M' T tl (pTest T tl (q + 1)).2.1 σ'))
    cases e : (pTest T tl (q + 1)).1
    · obtain ⟨rfl, σ', h2⟩ := n2 e
      refine c_t rfl ?_
      rw [hX]
      exact PL_no h2 (Fr_tr f1 f2)
    · obtain ⟨rfl, h2⟩ := t2 e
      exact c_f (by decide) (PL_ye h2 (Fr_tr f1 f2))
  · obtain ⟨rfl, h1⟩ := b1 k1
    rw [pPre, if_neg (fun e => k1 (eQ_t.mp e))]
    refine c_t rfl ?_
    rw [hX]
    exact PL_no h1 f1
theorem SV_P {σ : aS} {P : aP} (h : SV σ) (h1 : pg_r P ≤ 5) (h2 : ∀ r, r < pg_r P → pg_z P r ≤ 6) (h3 : ∀ r k, pg_t P r k < 4) (h4 : pg_o P ≤ 20) (h5 : off (pg_T P) (pg_o P) ≤ 400) : SV (sSetP P σ) := ⟨⟨h1, h2, h3, h4, h5⟩, h.2⟩
theorem r_order (hA : Inj ad) (hS : Sh G ad) {M : mS} {σ : aS} {p : Nat} (h : CR ad M T tl p σ) (hp : p < nT T tl) : p_cl (m_X2_takeOrderWord G M (ad 55)) (fun M' _ => CR ad M' T tl (p + 1) (sOrdr T tl p σ) ∧ Fr (PF ad) M M') := by
  unfold m_X2_takeOrderWord
  refine c_rf (sh_q1 hS) ?_
  rw [r_kind hS h]
  refine c_cl (c_some (c_clm (c_beginOrder hA (sh_P12 hS) h.1.2.1 h.2.2.1.2.2.2.1) ?_))
  rintro M1 r ⟨a1, b1, f1⟩
  unfold m_X2_takeOrderWord_19 sOrdr
  by_cases k : pg_o (sgP σ) < 20
  · obtain ⟨rfl, h1⟩ := a1 k
    rw [if_pos k]
    have hv : SV (sSetP (pOrd (kdT T tl p) (sgP σ)) σ) := by
      obtain ⟨v1, v2, v3, v4, v5⟩ := h.2.2.1
      refine SV_P h.2.2 v1 v2 v3 (show pg_o (sgP σ) + 1 ≤ 20 by omega) ?_
      show off (fun j => if j = pg_o (sgP σ) then [] else pg_T (sgP σ) j) (pg_o (sgP σ) + 1) ≤ 400
      rw [off, if_pos rfl, off_congr (U := pg_T (sgP σ)) _ (fun j hj => if_neg (by omega))]
      exact v5
    refine c_f (by decide) (c_clm (r_adv hA hS (CR_P hA h f1 h1 rfl hv) hp) ?_)
    rintro M2 _ ⟨h2, f2⟩
    exact c_some ⟨h2, Fr_tr (PF_P f1) f2⟩
  · obtain ⟨rfl, rfl⟩ := b1 k
    rw [if_neg k]
    refine c_t rfl (c_clm (r_complain hA hS h (e := 4) (by decide)) ?_)
    rintro M2 _ ⟨h2, f2⟩
    refine c_clm (r_adv hA hS h2 hp) ?_
    rintro M3 _ ⟨h3, f3⟩
    exact c_some ⟨h3, Fr_tr f2 f3⟩
theorem r_nums (hA : Inj ad) (hS : Sh G ad) {M : mS} {σ : aS} {p : Nat} (h : CR ad M T tl p σ) {f s : Nat} : p_cl (m_X3_setOrderNumbers G M (ad 12) (zn f) (zn s)) (fun M' _ => CR ad M' T tl p (sNums f s σ) ∧ Fr (PF ad) M M') := by
  refine c_mono (c_setNums hA (sh_P12 hS) h.1.2.1 h.2.2.1.2.2.2.1) ?_
  rintro M1 _ ⟨h1, f1⟩
  obtain ⟨v1, v2, v3, v4, v5⟩ := h.2.2.1
  have e : pg_r (pNums f s (sgP σ)) = pg_r (sgP σ) ∧ pg_z (pNums f s (sgP σ)) = pg_z (sgP σ) ∧ pg_t (pNums f s (sgP σ)) = pg_t (sgP σ) ∧ pg_o (pNums f s (sgP σ)) = pg_o (sgP σ) ∧ pg_T (pNums f s (sgP σ)) = pg_T (sgP σ) := by
    unfold pNums
    split
    · exact ⟨rfl, rfl, rfl, rfl, rfl⟩
    · exact ⟨rfl, rfl, rfl, rfl, rfl⟩
  obtain ⟨e1, e2, e3, e4, e5⟩ := e
  exact ⟨CR_P hA h f1 h1 e1 (SV_P h.2.2 (by rw [e1]; exact v1) (by rw [e1, e2]; exact v2) (by rw [e3]; exact v3) (by rw [e4]; exact v4) (by rw [e4, e5]; exact v5)), PF_P f1⟩
/-- wash from to when test -/
def sWash (T : Nat → Nat) (tl p : Nat) (σ : aS) : aS := sOps T tl (pTest T tl (p + 5)).2.2 (sNums (nRn 0 63 (numT T tl (p + 1))) (nRn (nRn 0 63 (numT T tl (p + 1))) 63 (numT T tl (p + 3))) (sRn (nRn 0 63 (numT T tl (p + 1))) 63 (numT T tl (p + 3)) (tkP T tl (p + 3)) (sRn 0 63 (numT T tl (p + 1)) (tkP T tl (p + 1)) (sOrdr T tl p σ))))
theorem r_wash (hA : Inj ad) (hS : Sh G ad) (hT : ∀ k, k < tl → T k < 256) {M : mS} {σ : aS} {p : Nat} (h : CR ad M T tl p σ) (hp : p < nT T tl) : PostL ad T tl M (m_X2_washLine G M (ad 55)) (pThen T tl (pPre (kdT T tl) washQ (p + 1))) (sWash T tl p σ) := by
  unfold m_X2_washLine washQ m_X2_washLine_40
  refine c_clm (r_order hA hS h hp) ?_
  rintro M1 _ ⟨h1, f1⟩
  rw [r_kind hS h1]
  have hb1 := kdT_le (T := T) (tl := tl) hT (q := p + 1)
  refine c_cl (c_some (c_if (fun g => ?_) (fun g => ?_)))
  · have g : kdT T tl (p + 1) = 3 := (zn_lit hb1 (by decide)).mp g
    rw [pPre, if_pos (eQ_t.mpr g)]
    refine c_clm (r_range hA hS h1 g (lo := 0) (hi := 63) (by decide) (by decide)) ?_
    rintro M2 _ ⟨rfl, h2, f2⟩
    refine c_clm (r_take hA hS hT h2 (k := 215) (by decide) (by decide)) ?_
    rintro M3 r ⟨a3, b3, f3⟩
    by_cases k3 : kdT T tl (p + 1 + 1) = 215
    · obtain ⟨rfl, h3⟩ := a3 k3
      rw [pPre, if_pos (eQ_t.mpr k3)]
      refine c_f (by decide) ?_
      rw [r_kind hS h3]
      have hb3 := kdT_le (T := T) (tl := tl) hT (q := p + 1 + 1 + 1)
      refine c_cl (c_some (c_if (fun g4 => ?_) (fun g4 => ?_)))
      · have g4 : kdT T tl (p + 1 + 1 + 1) = 3 := (zn_lit hb3 (by decide)).mp g4
        rw [pPre, if_pos (eQ_t.mpr g4)]
        have hlo : nRn 0 63 (numT T tl (p + 1)) < 1000 := by unfold nRn; split <;> omega
        refine c_rf (sh_q1 hS) (c_clm (r_range hA hS h3 g4 (lo := nRn 0 63 (numT T tl (p + 1))) (hi := 63) hlo (by decide)) ?_)
        rintro M4 _ ⟨rfl, h4, f4⟩
        refine c_clm (r_nums hA hS h4) ?_
        rintro M5 _ ⟨h5, f5⟩
        exact PL_tr (Fr_tr f1 (Fr_tr f2 (Fr_tr f3 (Fr_tr f4 f5)))) (r_when hA hS hT h5 (X := m_X2_washLine_79 G (ad 55)) (fun M => rfl))
      · have g4 : ¬ kdT T tl (p + 1 + 1 + 1) = 3 := fun q => g4 ((zn_lit hb3 (by decide)).mpr q)
        rw [pPre, if_neg (fun q => g4 (eQ_t.mp q))]
        exact PL_no h3 (Fr_tr f1 (Fr_tr f2 f3))
    · obtain ⟨rfl, h3⟩ := b3 k3
      rw [pPre, if_neg (fun q => k3 (eQ_t.mp q))]
      exact c_t rfl (PL_no h3 (Fr_tr f1 (Fr_tr f2 f3)))
  · have g : ¬ kdT T tl (p + 1) = 3 := fun q => g ((zn_lit hb1 (by decide)).mpr q)
    rw [pPre, if_neg (fun q => g (eQ_t.mp q))]
    exact PL_no h1 f1
def sAntN (T : Nat → Nat) (tl p : Nat) (σ : aS) : aS := sLk (antO T tl p σ) (tkP T tl p) σ
theorem r_knownA (hA : Inj ad) (hS : Sh G ad) (hT : ∀ k, k < tl → T k < 256) {M : mS} {σ : aS} {p : Nat} (h : CR ad M T tl p σ) (hk : kdT T tl p = 2) : p_cl (m_X2_knownName G M (ad 55) (ad 57) (mI M (ad 38) 4)) (fun M' r => r = zn (ixD (antO T tl p σ)) ∧ CR ad M' T tl (p + 1) (sAntN T tl p σ) ∧ Fr (PF ad) M M') := by
  have hn := h.2.2.2.1.2.1
  exact r_known hA hS h hk hT (r_ixA hS h (name_ok hT hk).2) (fun i hi => by have := ixN_lt _ _ _ hi; omega)
/-- face ant side when test -/
def sFace (T : Nat → Nat) (tl p : Nat) (σ : aS) : aS := sOps T tl (pTest T tl (p + 4)).2.2 (sNums (ixD (antO T tl (p + 1) (sOrdr T tl p σ))) (kdT T tl (p + 2) - 209) (sAntN T tl (p + 1) (sOrdr T tl p σ)))
theorem qSide_t {k : Nat} : qSide k = true ↔ 209 ≤ k ∧ k ≤ 212 := by unfold qSide; rw [Bool.and_eq_true, decide_eq_true_iff, decide_eq_true_iff]
theorem r_face (hA : Inj ad) (hS : Sh G ad) (hT : ∀ k, k < tl → T k < 256) {M : mS} {σ : aS} {p : Nat} (h : CR ad M T tl p σ) (hp : p < nT T tl) : PostL ad T tl M (m_X2_faceLine G M (ad 55)) (pThen T tl (pPre (kdT T tl) faceQ (p + 1))) (sFace T tl p σ) := by
  unfold m_X2_faceLine faceQ
  refine c_clm (r_order hA hS h hp) ?_
  rintro M1 _ ⟨h1, f1⟩
  rw [r_kind hS h1]
  have hb1 := kdT_le (T := T) (tl := tl) hT (q := p + 1)
  refine c_cl (c_some (c_if (fun g => ?_) (fun g => ?_)))
  · have g : kdT T tl (p + 1) = 2 := (zn_lit hb1 (by decide)).mp g
    rw [pPre, if_pos (eQ_t.mpr g)]
    refine c_rf (sh_q4 hS) (c_rf (sh_q2 hS) (c_clm (r_knownA hA hS hT h1 g) ?_))
    rintro M2 _ ⟨rfl, h2, f2⟩
    rw [r_isSide hS hT h2]
    refine c_cl (c_some ?_)
    by_cases k2 : 209 ≤ kdT T tl (p + 1 + 1) ∧ kdT T tl (p + 1 + 1) ≤ 212
    · rw [if_pos k2, pPre, if_pos (qSide_t.mpr k2)]
      refine c_f (by decide) (c_rf (sh_q1 hS) (c_clm (r_takeSide hA hS h2 k2.1) ?_))
      rintro M3 _ ⟨rfl, h3, f3⟩
      refine c_clm (r_nums hA hS h3) ?_
      rintro M5 _ ⟨h5, f5⟩
      exact PL_tr (Fr_tr f1 (Fr_tr f2 (Fr_tr f3 f5))) (r_when hA hS hT h5 (X := m_X2_faceLine_73 G (ad 55)) (fun M => rfl))
    · rw [if_neg k2, pPre, if_neg (fun q => k2 (qSide_t.mp q))]
      exact c_t rfl (PL_no h2 (Fr_tr f1 f2))
  · have g : ¬ kdT T tl (p + 1) = 2 := fun q => g ((zn_lit hb1 (by decide)).mpr q)
    rw [pPre, if_neg (fun q => g (eQ_t.mp q))]
    exact PL_no h1 f1
/-- halt or walk, ant, when test -/
def sHalt (T : Nat → Nat) (tl p : Nat) (σ : aS) : aS := sOps T tl (pTest T tl (p + 3)).2.2 (sNums (ixD (antO T tl (p + 1) (sOrdr T tl p σ))) 0 (sAntN T tl (p + 1) (sOrdr T tl p σ)))
theorem r_halt (hA : Inj ad) (hS : Sh G ad) (hT : ∀ k, k < tl → T k < 256) {M : mS} {σ : aS} {p : Nat} (h : CR ad M T tl p σ) (hp : p < nT T tl) : PostL ad T tl M (m_X2_haltLine G M (ad 55)) (pThen T tl (pPre (kdT T tl) haltQ (p + 1))) (sHalt T tl p σ) := by
  unfold m_X2_haltLine haltQ
  refine c_clm (r_order hA hS h hp) ?_
  rintro M1 _ ⟨h1, f1⟩
  rw [r_kind hS h1]
  have hb1 := kdT_le (T := T) (tl := tl) hT (q := p + 1)
  refine c_cl (c_some (c_if (fun g => ?_) (fun g => ?_)))
  · have g : kdT T tl (p + 1) = 2 := (zn_lit hb1 (by decide)).mp g
    rw [pPre, if_pos (eQ_t.mpr g)]
    refine c_rf (sh_q1 hS) (c_rf (sh_q4 hS) (c_rf (sh_q2 hS) (c_clm (r_knownA hA hS hT h1 g) ?_)))
    rintro M2 _ ⟨rfl, h2, f2⟩
    refine c_clm (r_nums hA hS (s := 0) h2) ?_
    rintro M5 _ ⟨h5, f5⟩
    exact PL_tr (Fr_tr f1 (Fr_tr f2 f5)) (r_when hA hS hT h5 (X := m_X2_haltLine_59 G (ad 55)) (fun M => rfl))
  · have g : ¬ kdT T tl (p + 1) = 2 := fun q => g ((zn_lit hb1 (by decide)).mpr q)
    rw [pPre, if_neg (fun q => g (eQ_t.mp q))]
    exact PL_no h1 f1
end Lines
