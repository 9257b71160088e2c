/-! the loop of the law -/
def fcs (d c1 c2 c3 c4 c5 : Int32) (G : gS) (M : mS) (x mm o : Nat) (post : gS → mS → Prop) : Prop := if d = 0 then fc_0 G M x mm o c1 c2 c3 c4 c5 post else if d = 1 then fc_1 G M x mm o c1 post else if d = 2 then fc_2 G M x mm o post else if d = 3 then fc_3 G M x mm o post else if d = 4 then fc_4 G M x mm o c1 post else if d = 5 then fc_5 G M x mm o c1 c2 post else if d = 6 then fc_6 G M x mm o c1 post else if d = 7 then fc_7 G M x mm o c1 post else if d = 8 then fc_8 G M x mm o c1 c2 post else if d = 9 then fc_9 G M x mm o c1 c2 post else if d = 10 then fc_10 G M x mm o c1 c2 c3 post else if d = 11 then fc_11 G M x mm o c1 c2 post else if d = 12 then fc_12 G M x mm o c1 c2 post else if d = 13 then fc_13 G M x mm o c1 post else if d = 14 then fc_14 G M x mm o c1 c2 c3 post else if d = 15 then fc_15 G M x mm o c1 post else if d = 16 then fc_16 G M x mm o c1 c2 post else if d = 17 then fc_17 G M x mm o c1 c2 c3 post else if d = 18 then fc_18 G M x mm o post else if d = 19 then fc_19 G M x mm o c1 post else if d = 20 then fc_20 G M x mm o post else if d = 21 then fc_21 G M x mm o post else post G M
theorem if_t {c P Q : Prop} [Decidable c] (h : if c then P else Q) (k : c) : P := by rw [if_pos k] at h; exact h
theorem if_f {c P Q : Prop} [Decidable c] (h : if c then P else Q) (k : ¬ c) : Q := by rw [if_neg k] at h; exact h
theorem i_bnd {i : Int32} {j z L : Nat} (hi : i.toInt = 6 * (j : Int)) (hz : z < 6) (hL : 6 * j + 6 ≤ L) (hL2 : L ≤ 3072) : vp_in (i + Int32.ofNat z) L := by
  have h1 : (i + Int32.ofNat z).toInt = 6 * (j : Int) + z := by
    rw [Int32.toInt_add, hi, Int32.toInt_ofNat_of_lt (by omega)]
    exact Int.bmod_eq_of_le (by omega) (by omega)
  rintro (h | h)
  · have := Int32.lt_iff_toInt_lt.mp h
    rw [h1] at this
    have e0 : (0 : Int32).toInt = 0 := rfl
    omega
  · rw [Int32.toNatClampNeg, h1] at h; omega
set_option maxHeartbeats 4000000 in
set_option maxRecDepth 100000 in
theorem law_case {p : Program} {e : Env} {s : State} {m : MethodId} {args : Array Value} {below : List Frame} {meth : Method} {c : Code} {A : Nat → Prop} {l : Launch} {D : va_G} {cy : cyS} {G : gS} {M : mS} {H : Heap} {locs : List Loc} {ls : Array Slot} {Q : State → Prop} {x mm o b L k0 n0 : Nat} {xs : Nat → Int32} {i : Int32} {post : gS → mS → Prop} (hst : l.stackTraces = false) (cx : cX p s m args meth c cL_law RL 9 (some .boolean) wsL_law D cy G A) (w : wd D cy G M A s.heap H locs) (hl : lv_has ls 9 [(0, .ref b), (1, .ref x), (2, .ref mm), (3, .ref o), (4, .int i)]) (hX : va_X b L xs s s.heap ∧ b < s.heap.size ∧ ¬ A b) (hkk : k0 + 20 ≤ 601024 ∧ n0 + 6000 ≤ 7293034) (hL1 : x ∈ gL G) (hK1 : gK G x = 8) (hL2 : mm ∈ gL G) (hK2 : gK G mm = 11) (hL3 : o ∈ gL G) (hK3 : gK G o = 13) (hi0 : vp_in i L) (hi1 : vp_in (i + (1 : Int32)) L) (hi2 : vp_in (i + (2 : Int32)) L) (hi3 : vp_in (i + (3 : Int32)) L) (hi4 : vp_in (i + (4 : Int32)) L) (hi5 : vp_in (i + (5 : Int32)) L) (h : fcs (xs (Int32.toNatClampNeg i) &&& 31) (xs (Int32.toNatClampNeg (i + (1 : Int32)))) (xs (Int32.toNatClampNeg (i + (2 : Int32)))) (xs (Int32.toNatClampNeg (i + (3 : Int32)))) (xs (Int32.toNatClampNeg (i + (4 : Int32)))) (xs (Int32.toNatClampNeg (i + (5 : Int32)))) G M x mm o post) (hk : ∀ (G1 : gS) (M1 : mS) (H1 : Heap) (locs1 : List Loc) (ls1 : Array Slot), post G1 M1 → ext G G1 → cX p s m args meth c cL_law RL 9 (some .boolean) wsL_law D cy G1 A → wd D cy G1 M1 A s.heap H1 locs1 → lv_has ls1 9 [(0, .ref b), (1, .ref x), (2, .ref mm), (3, .ref o), (4, .int i)] → W p l e room_1 s m args below meth c H1 locs1 (k0 + 20) (n0 + 6000) Q (F0 m 1389 ls1 [])) : W p l e room_1 s m args below meth c H locs k0 n0 Q (F0 m 33 ls []) := by
  obtain ⟨hx, hb, hml, hown, hts, hr, hlocks, hK, hA, hG, hsx⟩ := id cx
  unfold fcs at h
  refine lv_aload_n hx hb dL_law_33 rfl (lv_at hl 0 rfl) ?_
  refine lv_iload hx hb dL_law_34 (lv_at hl 4 rfl) ?_
  refine va_sld hx hb hX.1 hX.2.1 hX.2.2 w.2.2 hi0 dL_law_36 ?_
  refine lv_bipush (v := (31 : Int32)) hx hb dL_law_37 (by decide) ?_
  refine lv_iand hx hb dL_law_39 ?_
  obtain ⟨d, ed⟩ : ∃ d, d = xs (Int32.toNatClampNeg i) &&& 31 := ⟨_, rfl⟩
  rw [← ed] at h
  refine r_topI ed ?_
  rcases Decidable.em (d = 0) with z0 | z0
  · have h := if_t h z0
    rw [z0]
    refine lv_tableIn (tgt := 144) hx hb dL_law_40 (by decide) (by decide) rfl (by decide) ?_
    exact lc_0 hst cx w hl hX hkk hL1 hK1 hL2 hK2 hL3 hK3 hi1 rfl hi2 rfl hi3 rfl hi4 rfl hi5 rfl h hk
  · have h := if_f h z0
    rcases Decidable.em (d = 1) with z1 | z1
    · have h := if_t h z1
      rw [z1]
      refine lv_tableIn (tgt := 248) hx hb dL_law_40 (by decide) (by decide) rfl (by decide) ?_
      exact lc_1 hst cx w hl hX hkk hL1 hK1 hL2 hK2 hL3 hK3 hi1 rfl h hk
    · have h := if_f h z1
      rcases Decidable.em (d = 2) with z2 | z2
      · have h := if_t h z2
        rw [z2]
        refine lv_tableIn (tgt := 304) hx hb dL_law_40 (by decide) (by decide) rfl (by decide) ?_
        exact lc_2 hst cx w hl hX hkk hL1 hK1 hL2 hK2 hL3 hK3 h hk
      · have h := if_f h z2
        rcases Decidable.em (d = 3) with z3 | z3
        · have h := if_t h z3
          rw [z3]
          refine lv_tableIn (tgt := 317) hx hb dL_law_40 (by decide) (by decide) rfl (by decide) ?_
          exact lc_3 hst cx w hl hX hkk hL1 hK1 hL2 hK2 hL3 hK3 h hk
        · have h := if_f h z3
          rcases Decidable.em (d = 4) with z4 | z4
          · have h := if_t h z4
            rw [z4]
            refine lv_tableIn (tgt := 330) hx hb dL_law_40 (by decide) (by decide) rfl (by decide) ?_
            exact lc_4 hst cx w hl hX hkk hL1 hK1 hL2 hK2 hL3 hK3 hi1 rfl h hk
          · have h := if_f h z4
            rcases Decidable.em (d = 5) with z5 | z5
            · have h := if_t h z5
              rw [z5]
              refine lv_tableIn (tgt := 386) hx hb dL_law_40 (by decide) (by decide) rfl (by decide) ?_
              exact lc_5 hst cx w hl hX hkk hL1 hK1 hL2 hK2 hL3 hK3 hi1 rfl hi2 rfl h hk
            · have h := if_f h z5
              rcases Decidable.em (d = 6) with z6 | z6
              · have h := if_t h z6
                rw [z6]
                refine lv_tableIn (tgt := 454) hx hb dL_law_40 (by decide) (by decide) rfl (by decide) ?_
                exact lc_6 hst cx w hl hX hkk hL1 hK1 hL2 hK2 hL3 hK3 hi1 rfl h hk
              · have h := if_f h z6
                rcases Decidable.em (d = 7) with z7 | z7
                · have h := if_t h z7
                  rw [z7]
                  refine lv_tableIn (tgt := 510) hx hb dL_law_40 (by decide) (by decide) rfl (by decide) ?_
                  exact lc_7 hst cx w hl hX hkk hL1 hK1 hL2 hK2 hL3 hK3 hi1 rfl h hk
                · have h := if_f h z7
                  rcases Decidable.em (d = 8) with z8 | z8
                  · have h := if_t h z8
                    rw [z8]
                    refine lv_tableIn (tgt := 566) hx hb dL_law_40 (by decide) (by decide) rfl (by decide) ?_
                    exact lc_8 hst cx w hl hX hkk hL1 hK1 hL2 hK2 hL3 hK3 hi1 rfl hi2 rfl h hk
                  · have h := if_f h z8
                    rcases Decidable.em (d = 9) with z9 | z9
                    · have h := if_t h z9
                      rw [z9]
                      refine lv_tableIn (tgt := 634) hx hb dL_law_40 (by decide) (by decide) rfl (by decide) ?_
                      exact lc_9 hst cx w hl hX hkk hL1 hK1 hL2 hK2 hL3 hK3 hi1 rfl hi2 rfl h hk
                    · have h := if_f h z9
                      rcases Decidable.em (d = 10) with z10 | z10
                      · have h := if_t h z10
                        rw [z10]
                        refine lv_tableIn (tgt := 702) hx hb dL_law_40 (by decide) (by decide) rfl (by decide) ?_
                        exact lc_10 hst cx w hl hX hkk hL1 hK1 hL2 hK2 hL3 hK3 hi1 rfl hi2 rfl hi3 rfl h hk
                      · have h := if_f h z10
                        rcases Decidable.em (d = 11) with z11 | z11
                        · have h := if_t h z11
                          rw [z11]
                          refine lv_tableIn (tgt := 782) hx hb dL_law_40 (by decide) (by decide) rfl (by decide) ?_
                          exact lc_11 hst cx w hl hX hkk hL1 hK1 hL2 hK2 hL3 hK3 hi1 rfl hi2 rfl h hk
                        · have h := if_f h z11
                          rcases Decidable.em (d = 12) with z12 | z12
                          · have h := if_t h z12
                            rw [z12]
                            refine lv_tableIn (tgt := 850) hx hb dL_law_40 (by decide) (by decide) rfl (by decide) ?_
                            exact lc_12 hst cx w hl hX hkk hL1 hK1 hL2 hK2 hL3 hK3 hi1 rfl hi2 rfl h hk
                          · have h := if_f h z12
                            rcases Decidable.em (d = 13) with z13 | z13
                            · have h := if_t h z13
                              rw [z13]
                              refine lv_tableIn (tgt := 918) hx hb dL_law_40 (by decide) (by decide) rfl (by decide) ?_
                              exact lc_13 hst cx w hl hX hkk hL1 hK1 hL2 hK2 hL3 hK3 hi1 rfl h hk
                            · have h := if_f h z13
                              rcases Decidable.em (d = 14) with z14 | z14
                              · have h := if_t h z14
                                rw [z14]
                                refine lv_tableIn (tgt := 981) hx hb dL_law_40 (by decide) (by decide) rfl (by decide) ?_
                                exact lc_14 hst cx w hl hX hkk hL1 hK1 hL2 hK2 hL3 hK3 hi1 rfl hi2 rfl hi3 rfl h hk
                              · have h := if_f h z14
                                rcases Decidable.em (d = 15) with z15 | z15
                                · have h := if_t h z15
                                  rw [z15]
                                  refine lv_tableIn (tgt := 1061) hx hb dL_law_40 (by decide) (by decide) rfl (by decide) ?_
                                  exact lc_15 hst cx w hl hX hkk hL1 hK1 hL2 hK2 hL3 hK3 hi1 rfl h hk
                                · have h := if_f h z15
                                  rcases Decidable.em (d = 16) with z16 | z16
                                  · have h := if_t h z16
                                    rw [z16]
                                    refine lv_tableIn (tgt := 1117) hx hb dL_law_40 (by decide) (by decide) rfl (by decide) ?_
                                    exact lc_16 hst cx w hl hX hkk hL1 hK1 hL2 hK2 hL3 hK3 hi1 rfl hi2 rfl h hk
                                  · have h := if_f h z16
                                    rcases Decidable.em (d = 17) with z17 | z17
                                    · have h := if_t h z17
                                      rw [z17]
                                      refine lv_tableIn (tgt := 1185) hx hb dL_law_40 (by decide) (by decide) rfl (by decide) ?_
                                      exact lc_17 hst cx w hl hX hkk hL1 hK1 hL2 hK2 hL3 hK3 hi1 rfl hi2 rfl hi3 rfl h hk
                                    · have h := if_f h z17
                                      rcases Decidable.em (d = 18) with z18 | z18
                                      · have h := if_t h z18
                                        rw [z18]
                                        refine lv_tableIn (tgt := 1265) hx hb dL_law_40 (by decide) (by decide) rfl (by decide) ?_
                                        exact lc_18 hst cx w hl hX hkk hL1 hK1 hL2 hK2 hL3 hK3 h hk
                                      · have h := if_f h z18
                                        rcases Decidable.em (d = 19) with z19 | z19
                                        · have h := if_t h z19
                                          rw [z19]
                                          refine lv_tableIn (tgt := 1278) hx hb dL_law_40 (by decide) (by decide) rfl (by decide) ?_
                                          exact lc_19 hst cx w hl hX hkk hL1 hK1 hL2 hK2 hL3 hK3 hi1 rfl h hk
                                        · have h := if_f h z19
                                          rcases Decidable.em (d = 20) with z20 | z20
                                          · have h := if_t h z20
                                            rw [z20]
                                            refine lv_tableIn (tgt := 1334) hx hb dL_law_40 (by decide) (by decide) rfl (by decide) ?_
                                            exact lc_20 hst cx w hl hX hkk hL1 hK1 hL2 hK2 hL3 hK3 h hk
                                          · have h := if_f h z20
                                            rcases Decidable.em (d = 21) with z21 | z21
                                            · have h := if_t h z21
                                              rw [z21]
                                              refine lv_tableIn (tgt := 1375) hx hb dL_law_40 (by decide) (by decide) rfl (by decide) ?_
                                              exact lc_21 hst cx w hl hX hkk hL1 hK1 hL2 hK2 hL3 hK3 h hk
                                            · have h := if_f h z21
                                              refine lv_tableOut (tgt := 1389) hx hb dL_law_40 (by have nk0 : Int32.toInt d ≠ 0 := fun hh => z0 (Int32.toInt_inj.mp hh); have nk1 : Int32.toInt d ≠ 1 := fun hh => z1 (Int32.toInt_inj.mp hh); have nk2 : Int32.toInt d ≠ 2 := fun hh => z2 (Int32.toInt_inj.mp hh); have nk3 : Int32.toInt d ≠ 3 := fun hh => z3 (Int32.toInt_inj.mp hh); have nk4 : Int32.toInt d ≠ 4 := fun hh => z4 (Int32.toInt_inj.mp hh); have nk5 : Int32.toInt d ≠ 5 := fun hh => z5 (Int32.toInt_inj.mp hh); have nk6 : Int32.toInt d ≠ 6 := fun hh => z6 (Int32.toInt_inj.mp hh); have nk7 : Int32.toInt d ≠ 7 := fun hh => z7 (Int32.toInt_inj.mp hh); have nk8 : Int32.toInt d ≠ 8 := fun hh => z8 (Int32.toInt_inj.mp hh); have nk9 : Int32.toInt d ≠ 9 := fun hh => z9 (Int32.toInt_inj.mp hh); have nk10 : Int32.toInt d ≠ 10 := fun hh => z10 (Int32.toInt_inj.mp hh); have nk11 : Int32.toInt d ≠ 11 := fun hh => z11 (Int32.toInt_inj.mp hh); have nk12 : Int32.toInt d ≠ 12 := fun hh => z12 (Int32.toInt_inj.mp hh); have nk13 : Int32.toInt d ≠ 13 := fun hh => z13 (Int32.toInt_inj.mp hh); have nk14 : Int32.toInt d ≠ 14 := fun hh => z14 (Int32.toInt_inj.mp hh); have nk15 : Int32.toInt d ≠ 15 := fun hh => z15 (Int32.toInt_inj.mp hh); have nk16 : Int32.toInt d ≠ 16 := fun hh => z16 (Int32.toInt_inj.mp hh); have nk17 : Int32.toInt d ≠ 17 := fun hh => z17 (Int32.toInt_inj.mp hh); have nk18 : Int32.toInt d ≠ 18 := fun hh => z18 (Int32.toInt_inj.mp hh); have nk19 : Int32.toInt d ≠ 19 := fun hh => z19 (Int32.toInt_inj.mp hh); have nk20 : Int32.toInt d ≠ 20 := fun hh => z20 (Int32.toInt_inj.mp hh); have nk21 : Int32.toInt d ≠ 21 := fun hh => z21 (Int32.toInt_inj.mp hh); omega) (by decide) ?_
                                              refine W.widen (k := k0 + 20) (n := n0 + 6000) (by omega) (by omega) ?_
                                              exact hk _ _ _ _ _ h ext_rf cx w hl
theorem i_six {i : Int32} {j : Nat} (hi : i.toInt = 6 * (j : Int)) (hj : j < 1000) : (i + 6).toInt = 6 * ((j + 1 : Nat) : Int) := by
  rw [Int32.toInt_add, hi, show (6 : Int32).toInt = 6 from rfl]
  rw [show (6 * (j : Int) + 6) = 6 * ((j + 1 : Nat) : Int) by omega]
  exact Int.bmod_eq_of_le (by omega) (by omega)
theorem law_len {i : Int32} {j L : Nat} (hi : i.toInt = 6 * (j : Int)) (hL : L ≤ 3072) (hj : L < 6 * j + 6) : Int32.ofNat L - 6 < i := by
  rw [Int32.lt_iff_toInt_lt, hi, Int32.toInt_sub, Int32.toInt_ofNat_of_lt (by omega), show (6 : Int32).toInt = 6 from rfl]
  rw [Int.bmod_eq_of_le (by omega) (by omega)]
  omega
set_option maxHeartbeats 4000000 in
set_option maxRecDepth 100000 in
theorem law_loop {p : Program} {e : Env} {s : State} {m : MethodId} {args : Array Value} {below : List Frame} {meth : Method} {c : Code} {A : Nat → Prop} {l : Launch} {D : va_G} {cy : cyS} {Q : State → Prop} {x mm o b L : Nat} {xs : Nat → Int32} {Inv : Nat → gS → mS → Prop} (hst : l.stackTraces = false) (hL : L ≤ 3072) (hX : va_X b L xs s s.heap ∧ b < s.heap.size ∧ ¬ A b) (HS : ∀ (j : Nat) (G : gS) (M : mS) (d c1 c2 c3 c4 c5 : Int32), j < 512 → Inv j G M → wt G → fcs (d &&& 31) c1 c2 c3 c4 c5 G M x mm o (Inv (j + 1))) (hend : ∀ (G : gS) (M : mS) (H : Heap) (locs : List Loc) (ls : Array Slot) (k n : Nat), k ≤ 601024 → n ≤ 7293034 → cX p s m args meth c cL_law RL 9 (some .boolean) wsL_law D cy G A → wd D cy G M A s.heap H locs → W p l e room_1 s m args below meth c H locs k n Q (F0 m 1396 ls [.int 1])) : ∀ (n j : Nat) (i : Int32) (G : gS) (M : mS) (H : Heap) (locs : List Loc) (ls : Array Slot), j + n = 512 → i.toInt = 6 * (j : Int) → Inv j G M → cX p s m args meth c cL_law RL 9 (some .boolean) wsL_law D cy G A → wd D cy G M A s.heap H locs → x ∈ gL G → gK G x = 8 → mm ∈ gL G → gK G mm = 11 → o ∈ gL G → gK G o = 13 → lv_has ls 9 [(0, .ref b), (1, .ref x), (2, .ref mm), (3, .ref o), (4, .int i)] → W p l e room_1 s m args below meth c H locs (200 + 20 * j) (50000 + 6000 * j) Q (F0 m 23 ls []) := by
  intro n
  induction n with
  | zero =>
    intro j i G M H locs ls hj hi hI cx w hL1 hK1 hL2 hK2 hL3 hK3 hl
    obtain ⟨hx, hb, hml, hown, hts, hr, hlocks, hK, hA, hG, hsx⟩ := id cx
    refine lv_iload hx hb dL_law_23 (lv_at hl 4 rfl) ?_
    refine lv_aload_n hx hb dL_law_25 rfl (lv_at hl 0 rfl) ?_
    refine va_slen hx hb hX.1 hX.2.1 hX.2.2 w.2.2 dL_law_26 ?_
    refine lv_bipush (v := (6 : Int32)) hx hb dL_law_27 (by decide) ?_
    refine lv_isub hx hb dL_law_29 ?_
    refine lv_icmp_gt (tgt := 1395) hx hb dL_law_30 (by decide) (fun k => ?_) (fun k => ?_)
    · refine lv_iconst (v := (1 : Int32)) hx hb dL_law_1395 (by decide) ?_
      exact hend _ _ _ _ _ _ _ (by omega) (by omega) cx w
    · exact absurd (law_len hi hL (by omega)) k
  | succ n ih =>
    intro j i G M H locs ls hj hi hI cx w hL1 hK1 hL2 hK2 hL3 hK3 hl
    obtain ⟨hx, hb, hml, hown, hts, hr, hlocks, hK, hA, hG, hsx⟩ := id cx
    refine lv_iload hx hb dL_law_23 (lv_at hl 4 rfl) ?_
    refine lv_aload_n hx hb dL_law_25 rfl (lv_at hl 0 rfl) ?_
    refine va_slen hx hb hX.1 hX.2.1 hX.2.2 w.2.2 dL_law_26 ?_
    refine lv_bipush (v := (6 : Int32)) hx hb dL_law_27 (by decide) ?_
    refine lv_isub hx hb dL_law_29 ?_
    refine lv_icmp_gt (tgt := 1395) hx hb dL_law_30 (by decide) (fun k => ?_) (fun k => ?_)
    · refine lv_iconst (v := (1 : Int32)) hx hb dL_law_1395 (by decide) ?_
      exact hend _ _ _ _ _ _ _ (by omega) (by omega) cx w
    · have hle : 6 * j + 6 ≤ L := by
        rcases Nat.lt_or_ge L (6 * j + 6) with q | q
        · exact absurd (law_len hi hL (by omega)) k
        · exact q
      have hi0 : vp_in i L := by
        have := i_bnd (z := 0) hi (by omega) hle hL
        rw [show i + Int32.ofNat 0 = i from Int32.add_zero i] at this
        exact this
      refine law_case hst cx w hl hX ⟨by omega, by omega⟩ hL1 hK1 hL2 hK2 hL3 hK3 hi0 (i_bnd (z := 1) hi (by omega) hle hL) (i_bnd (z := 2) hi (by omega) hle hL) (i_bnd (z := 3) hi (by omega) hle hL) (i_bnd (z := 4) hi (by omega) hle hL) (i_bnd (z := 5) hi (by omega) hle hL) (HS j G M _ _ _ _ _ _ (by omega) hI hG) (fun G1 M1 H1 locs1 ls1 hI1 xe cx1 w1 hl1 => ?_)
      obtain ⟨i1, ei1⟩ : ∃ y : Int32, y = i + 6 := ⟨_, rfl⟩
      refine lv_iinc (v := i1) (lv' := [(4, .int i1), (0, .ref b), (1, .ref x), (2, .ref mm), (3, .ref o)]) hx hb dL_law_1389 hl1 (k := 4) rfl (by rw [ei1]; rfl) (by decide) rfl (fun ls hl => ?_)
      refine lv_goto (tgt := 23) hx hb dL_law_1392 (by decide) ?_
      have e1 : 200 + 20 * j + 20 = 200 + 20 * (j + 1) := by omega
      have e2 : 50000 + 6000 * j + 6000 = 50000 + 6000 * (j + 1) := by omega
      rw [e1, e2]
      exact ih (j + 1) i1 G1 M1 H1 locs1 ls (by omega) (by rw [ei1]; exact i_six hi (by omega)) hI1 cx1 w1 (ext_L xe hL1) (ext_K xe hL1 hK1) (ext_L xe hL2) (ext_K xe hL2 hK2) (ext_L xe hL3) (ext_K xe hL3 hK3) (lv_sub hl [1, 2, 3, 4, 0] rfl)
