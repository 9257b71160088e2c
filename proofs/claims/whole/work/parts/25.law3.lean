def fc_12 (G : gS) (M : mS) (x mm o : Nat) (c1 c2 : Int32) (post : gS → mS → Prop) : Prop := p_cl (m_L_face G M x c1 c2 o) (fun M1 r2 => p_cl (m_X12_face G M1 mm c1 c2) (fun M4 r5 => p_cl (m_X12_thrown G M4 mm) (fun M7 r8 => (p_if (r8 = r2) ((p_if (r2 = 0) (p_ix (0 : Int32) (gN G o) ((p_if ((lg_cmp (mJ M7 o (Int32.toNatClampNeg (0 : Int32))) (Int32.toInt64 r5)) = 0) (post G M7) (False)))) (post G M7))) (False)))))
set_option maxHeartbeats 4000000 in
set_option maxRecDepth 100000 in
theorem lc_12 {p : Program} {e : Env} {s : State} {m : MethodId} {args : Array Value} {below : List Frame} {meth : Method} {c : Code} {A : Nat → Prop} {l : Launch} {D : va_G} {cy : cyS} {G : gS} {M : mS} {H : Heap} {locs : List Loc} {ls : Array Slot} {Q : State → Prop} {x mm o b L k0 n0 : Nat} {xs : Nat → Int32} {i c1 c2 : Int32} {post : gS → mS → Prop} (hst : l.stackTraces = false) (cx : cX p s m args meth c cL_law RL 9 (some .boolean) wsL_law D cy G A) (w : wd D cy G M A s.heap H locs) (hl : lv_has ls 9 [(0, .ref b), (1, .ref x), (2, .ref mm), (3, .ref o), (4, .int i)]) (hX : va_X b L xs s s.heap ∧ b < s.heap.size ∧ ¬ A b) (hkk : k0 + 20 ≤ 601024 ∧ n0 + 6000 ≤ 7293034) (hL1 : x ∈ gL G) (hK1 : gK G x = 8) (hL2 : mm ∈ gL G) (hK2 : gK G mm = 11) (hL3 : o ∈ gL G) (hK3 : gK G o = 13) (hi1 : vp_in (i + (1 : Int32)) L) (hc1 : c1 = xs (Int32.toNatClampNeg (i + (1 : Int32)))) (hi2 : vp_in (i + (2 : Int32)) L) (hc2 : c2 = xs (Int32.toNatClampNeg (i + (2 : Int32)))) (h : fc_12 G M x mm o c1 c2 post) (hk : ∀ (G1 : gS) (M1 : mS) (H1 : Heap) (locs1 : List Loc) (ls1 : Array Slot), post G1 M1 → ext G G1 → cX p s m args meth c cL_law RL 9 (some .boolean) wsL_law D cy G1 A → wd D cy G1 M1 A s.heap H1 locs1 → lv_has ls1 9 [(0, .ref b), (1, .ref x), (2, .ref mm), (3, .ref o), (4, .int i)] → W p l e room_1 s m args below meth c H1 locs1 (k0 + 20) (n0 + 6000) Q (F0 m 1389 ls1 [])) : W p l e room_1 s m args below meth c H locs k0 n0 Q (F0 m 850 ls []) := by
  obtain ⟨hx, hb, hml, hown, hts, hr, hlocks, hK, hA, hG, hsx⟩ := id cx
  obtain ⟨hkc, hks⟩ := hkk
  have hext := ext_rf (G := G)
  unfold fc_12 at h
  refine lv_aload_n hx hb dL_law_850 rfl (lv_at hl 1 rfl) ?_
  refine lv_aload_n hx hb dL_law_851 rfl (lv_at hl 0 rfl) ?_
  refine lv_iload hx hb dL_law_852 (lv_at hl 4 rfl) ?_
  refine lv_iconst (v := (1 : Int32)) hx hb dL_law_854 (by decide) ?_
  refine lv_iadd hx hb dL_law_855 ?_
  refine va_sld hx hb hX.1 hX.2.1 hX.2.2 w.2.2 hi1 dL_law_856 ?_
  refine r_topI hc1 ?_
  refine lv_aload_n hx hb dL_law_857 rfl (lv_at hl 0 rfl) ?_
  refine lv_iload hx hb dL_law_858 (lv_at hl 4 rfl) ?_
  refine lv_iconst (v := (2 : Int32)) hx hb dL_law_860 (by decide) ?_
  refine lv_iadd hx hb dL_law_861 ?_
  refine va_sld hx hb hX.1 hX.2.1 hX.2.2 w.2.2 hi2 dL_law_862 ?_
  refine r_topI hc2 ?_
  refine lv_aload_n hx hb dL_law_863 rfl (lv_at hl 3 rfl) ?_
  obtain ⟨M1, r2, y3, h⟩ := w_cl h
  refine r_callSW (As := [.ref x, .int c1, .int c2, .ref o]) (rest := []) cx w ⟨by show _ ≤ 601024; omega, by show _ ≤ 7293034; omega⟩ hl.1 (k_L_face hG hst hL1 hK1 hL3 hK3 y3) (vx_cwSW 4 hts gL_law_L_face rfl rfl rfl (by decide +kernel) ⟨Nat.le_of_ble_eq_true rfl, Nat.le_of_ble_eq_true rfl⟩) rfl rfl (Nat.le_of_ble_eq_true rfl) dL_law_864 (fun H locs w => ?_)
  refine lv_istore (lv' := [(5, .int r2), (0, .ref b), (1, .ref x), (2, .ref mm), (3, .ref o), (4, .int i)]) hx hb dL_law_867 hl (by decide) rfl (fun ls hl => ?_)
  refine lv_aload_n hx hb dL_law_869 rfl (lv_at hl 3 rfl) ?_
  refine lv_aload_n hx hb dL_law_870 rfl (lv_at hl 1 rfl) ?_
  refine lv_iload hx hb dL_law_871 (lv_at hl 5 rfl) ?_
  refine lv_iconst (v := (1 : Int32)) hx hb dL_law_873 (by decide) ?_
  refine lv_iadd hx hb dL_law_874 ?_
  refine va_sld hx hb hX.1 hX.2.1 hX.2.2 w.2.2 hi1 dL_law_875 ?_
  refine r_topI hc1 ?_
  refine lv_aload_n hx hb dL_law_876 rfl (lv_at hl 1 rfl) ?_
  refine lv_iload hx hb dL_law_877 (lv_at hl 5 rfl) ?_
  refine lv_iconst (v := (2 : Int32)) hx hb dL_law_879 (by decide) ?_
  refine lv_iadd hx hb dL_law_880 ?_
  refine va_sld hx hb hX.1 hX.2.1 hX.2.2 w.2.2 hi2 dL_law_881 ?_
  refine r_topI hc2 ?_
  obtain ⟨M4, r5, y6, h⟩ := w_cl h
  refine r_callVi (As := [.int c1, .int c2]) (rest := []) cx w ⟨by show _ ≤ 601024; omega, by show _ ≤ 7293034; omega⟩ hl.1 (k_X12_face hG hL2 hK2 y6) (cwV 2 hts gL_law_X12_face rfl rfl rfl (by decide +kernel) ⟨Nat.le_of_ble_eq_true rfl, Nat.le_of_ble_eq_true rfl⟩) hL2 hK2 (by decide) rfl rfl rfl (Nat.le_of_ble_eq_true rfl) dL_law_882 (fun H locs w => ?_)
  refine lv_istore (lv' := [(6, .int r5), (5, .int r2), (0, .ref b), (1, .ref x), (2, .ref mm), (3, .ref o), (4, .int i)]) hx hb dL_law_885 hl (by decide) rfl (fun ls hl => ?_)
  refine lv_aload_n hx hb dL_law_887 rfl (lv_at hl 4 rfl) ?_
  obtain ⟨M7, r8, y9, h⟩ := w_cl h
  refine r_callVi (As := []) (rest := []) cx w ⟨by show _ ≤ 601024; omega, by show _ ≤ 7293034; omega⟩ hl.1 (k_X12_thrown hG hL2 hK2 y9) (cwV 0 hts gL_law_X12_thrown rfl rfl rfl (by decide +kernel) ⟨Nat.le_of_ble_eq_true rfl, Nat.le_of_ble_eq_true rfl⟩) hL2 hK2 (by decide) rfl rfl rfl (Nat.le_of_ble_eq_true rfl) dL_law_888 (fun H locs w => ?_)
  refine lv_iload hx hb dL_law_891 (lv_at hl 1 rfl) ?_
  refine lv_icmp_eq (tgt := 898) hx hb dL_law_893 (by decide) (fun k10 => ?_) (fun k10 => ?_)
  · have h := w_t h k10
    refine lv_iload hx hb dL_law_898 (lv_at hl 1 rfl) ?_
    refine lv_if_ne (tgt := 915) hx hb dL_law_900 (by decide) (fun k11 => ?_) (fun k11 => ?_)
    · have h := w_f h k11
      refine lv_goto (tgt := 1389) hx hb dL_law_915 (by decide) ?_
      refine W.widen (k := k0 + 20) (n := n0 + 6000) (by omega) (by omega) ?_
      exact hk _ _ _ _ _ h hext cx w (lv_sub hl [2, 3, 4, 5, 6] rfl)
    · have h := w_t h k11
      refine lv_aload_n hx hb dL_law_903 rfl (lv_at hl 5 rfl) ?_
      refine lv_iconst (v := (0 : Int32)) hx hb dL_law_904 (by decide) ?_
      obtain ⟨z12, h⟩ := w_ix h
      refine r_lald cx w hL3 hK3 z12 dL_law_905 ?_
      refine lv_iload hx hb dL_law_906 (lv_at hl 0 rfl) ?_
      refine lv_i2l (v := (Int32.toInt64 r5)) hx hb dL_law_908 rfl ?_
      refine W.lcmp hx hb dL_law_909 ?_
      refine lv_if_eq (tgt := 915) hx hb dL_law_910 (by decide) (fun k13 => ?_) (fun k13 => ?_)
      · have h := w_t h k13
        refine lv_goto (tgt := 1389) hx hb dL_law_915 (by decide) ?_
        refine W.widen (k := k0 + 20) (n := n0 + 6000) (by omega) (by omega) ?_
        exact hk _ _ _ _ _ h hext cx w (lv_sub hl [2, 3, 4, 5, 6] rfl)
      · have h := w_f h k13
        refine lv_iconst (v := (0 : Int32)) hx hb dL_law_913 (by decide) ?_
        exact h.elim
  · have h := w_f h k10
    refine lv_iconst (v := (0 : Int32)) hx hb dL_law_896 (by decide) ?_
    exact h.elim
def fc_13 (G : gS) (M : mS) (x mm o : Nat) (c1 : Int32) (post : gS → mS → Prop) : Prop := p_cl (m_L_halt G M x c1 o) (fun M1 r2 => p_cl (m_X12_halt G M1 mm c1) (fun M4 r5 => p_cl (m_X12_thrown G M4 mm) (fun M7 r8 => (p_if (r8 = r2) ((p_if (r2 = 0) (p_ix (0 : Int32) (gN G o) ((p_if (r5 = 0) ((p_if ((lg_cmp (mJ M7 o (Int32.toNatClampNeg (0 : Int32))) (0 : Int64)) = 0) (post G M7) (False))) ((p_if ((lg_cmp (mJ M7 o (Int32.toNatClampNeg (0 : Int32))) (1 : Int64)) = 0) (post G M7) (False)))))) (post G M7))) (False)))))
set_option maxHeartbeats 4000000 in
set_option maxRecDepth 100000 in
theorem lc_13 {p : Program} {e : Env} {s : State} {m : MethodId} {args : Array Value} {below : List Frame} {meth : Method} {c : Code} {A : Nat → Prop} {l : Launch} {D : va_G} {cy : cyS} {G : gS} {M : mS} {H : Heap} {locs : List Loc} {ls : Array Slot} {Q : State → Prop} {x mm o b L k0 n0 : Nat} {xs : Nat → Int32} {i c1 : Int32} {post : gS → mS → Prop} (hst : l.stackTraces = false) (cx : cX p s m args meth c cL_law RL 9 (some .boolean) wsL_law D cy G A) (w : wd D cy G M A s.heap H locs) (hl : lv_has ls 9 [(0, .ref b), (1, .ref x), (2, .ref mm), (3, .ref o), (4, .int i)]) (hX : va_X b L xs s s.heap ∧ b < s.heap.size ∧ ¬ A b) (hkk : k0 + 20 ≤ 601024 ∧ n0 + 6000 ≤ 7293034) (hL1 : x ∈ gL G) (hK1 : gK G x = 8) (hL2 : mm ∈ gL G) (hK2 : gK G mm = 11) (hL3 : o ∈ gL G) (hK3 : gK G o = 13) (hi1 : vp_in (i + (1 : Int32)) L) (hc1 : c1 = xs (Int32.toNatClampNeg (i + (1 : Int32)))) (h : fc_13 G M x mm o c1 post) (hk : ∀ (G1 : gS) (M1 : mS) (H1 : Heap) (locs1 : List Loc) (ls1 : Array Slot), post G1 M1 → ext G G1 → cX p s m args meth c cL_law RL 9 (some .boolean) wsL_law D cy G1 A → wd D cy G1 M1 A s.heap H1 locs1 → lv_has ls1 9 [(0, .ref b), (1, .ref x), (2, .ref mm), (3, .ref o), (4, .int i)] → W p l e room_1 s m args below meth c H1 locs1 (k0 + 20) (n0 + 6000) Q (F0 m 1389 ls1 [])) : W p l e room_1 s m args below meth c H locs k0 n0 Q (F0 m 918 ls []) := by
  obtain ⟨hx, hb, hml, hown, hts, hr, hlocks, hK, hA, hG, hsx⟩ := id cx
  obtain ⟨hkc, hks⟩ := hkk
  have hext := ext_rf (G := G)
  unfold fc_13 at h
  refine lv_aload_n hx hb dL_law_918 rfl (lv_at hl 1 rfl) ?_
  refine lv_aload_n hx hb dL_law_919 rfl (lv_at hl 0 rfl) ?_
  refine lv_iload hx hb dL_law_920 (lv_at hl 4 rfl) ?_
  refine lv_iconst (v := (1 : Int32)) hx hb dL_law_922 (by decide) ?_
  refine lv_iadd hx hb dL_law_923 ?_
  refine va_sld hx hb hX.1 hX.2.1 hX.2.2 w.2.2 hi1 dL_law_924 ?_
  refine r_topI hc1 ?_
  refine lv_aload_n hx hb dL_law_925 rfl (lv_at hl 3 rfl) ?_
  obtain ⟨M1, r2, y3, h⟩ := w_cl h
  refine r_callSW (As := [.ref x, .int c1, .ref o]) (rest := []) cx w ⟨by show _ ≤ 601024; omega, by show _ ≤ 7293034; omega⟩ hl.1 (k_L_halt hG hst hL1 hK1 hL3 hK3 y3) (vx_cwSW 3 hts gL_law_L_halt rfl rfl rfl (by decide +kernel) ⟨Nat.le_of_ble_eq_true rfl, Nat.le_of_ble_eq_true rfl⟩) rfl rfl (Nat.le_of_ble_eq_true rfl) dL_law_926 (fun H locs w => ?_)
  refine lv_istore (lv' := [(5, .int r2), (0, .ref b), (1, .ref x), (2, .ref mm), (3, .ref o), (4, .int i)]) hx hb dL_law_929 hl (by decide) rfl (fun ls hl => ?_)
  refine lv_aload_n hx hb dL_law_931 rfl (lv_at hl 3 rfl) ?_
  refine lv_aload_n hx hb dL_law_932 rfl (lv_at hl 1 rfl) ?_
  refine lv_iload hx hb dL_law_933 (lv_at hl 5 rfl) ?_
  refine lv_iconst (v := (1 : Int32)) hx hb dL_law_935 (by decide) ?_
  refine lv_iadd hx hb dL_law_936 ?_
  refine va_sld hx hb hX.1 hX.2.1 hX.2.2 w.2.2 hi1 dL_law_937 ?_
  refine r_topI hc1 ?_
  obtain ⟨M4, r5, y6, h⟩ := w_cl h
  refine r_callVi (As := [.int c1]) (rest := []) cx w ⟨by show _ ≤ 601024; omega, by show _ ≤ 7293034; omega⟩ hl.1 (k_X12_halt hG hL2 hK2 y6) (cwV 1 hts gL_law_X12_halt rfl rfl rfl (by decide +kernel) ⟨Nat.le_of_ble_eq_true rfl, Nat.le_of_ble_eq_true rfl⟩) hL2 hK2 (by decide) rfl rfl rfl (Nat.le_of_ble_eq_true rfl) dL_law_938 (fun H locs w => ?_)
  refine lv_istore (lv' := [(6, .int r5), (5, .int r2), (0, .ref b), (1, .ref x), (2, .ref mm), (3, .ref o), (4, .int i)]) hx hb dL_law_941 hl (by decide) rfl (fun ls hl => ?_)
  refine lv_aload_n hx hb dL_law_943 rfl (lv_at hl 4 rfl) ?_
  obtain ⟨M7, r8, y9, h⟩ := w_cl h
  refine r_callVi (As := []) (rest := []) cx w ⟨by show _ ≤ 601024; omega, by show _ ≤ 7293034; omega⟩ hl.1 (k_X12_thrown hG hL2 hK2 y9) (cwV 0 hts gL_law_X12_thrown rfl rfl rfl (by decide +kernel) ⟨Nat.le_of_ble_eq_true rfl, Nat.le_of_ble_eq_true rfl⟩) hL2 hK2 (by decide) rfl rfl rfl (Nat.le_of_ble_eq_true rfl) dL_law_944 (fun H locs w => ?_)
  refine lv_iload hx hb dL_law_947 (lv_at hl 1 rfl) ?_
  refine lv_icmp_eq (tgt := 954) hx hb dL_law_949 (by decide) (fun k10 => ?_) (fun k10 => ?_)
  · have h := w_t h k10
    refine lv_iload hx hb dL_law_954 (lv_at hl 1 rfl) ?_
    refine lv_if_ne (tgt := 978) hx hb dL_law_956 (by decide) (fun k11 => ?_) (fun k11 => ?_)
    · have h := w_f h k11
      refine lv_goto (tgt := 1389) hx hb dL_law_978 (by decide) ?_
      refine W.widen (k := k0 + 20) (n := n0 + 6000) (by omega) (by omega) ?_
      exact hk _ _ _ _ _ h hext cx w (lv_sub hl [2, 3, 4, 5, 6] rfl)
    · have h := w_t h k11
      refine lv_aload_n hx hb dL_law_959 rfl (lv_at hl 5 rfl) ?_
      refine lv_iconst (v := (0 : Int32)) hx hb dL_law_960 (by decide) ?_
      obtain ⟨z12, h⟩ := w_ix h
      refine r_lald cx w hL3 hK3 z12 dL_law_961 ?_
      refine lv_iload hx hb dL_law_962 (lv_at hl 0 rfl) ?_
      refine lv_if_eq (tgt := 971) hx hb dL_law_964 (by decide) (fun k13 => ?_) (fun k13 => ?_)
      · have h := w_t h k13
        refine lv_lconst (v := 0) hx hb dL_law_971 (by decide) ?_
        refine W.lcmp hx hb dL_law_972 ?_
        refine lv_if_eq (tgt := 978) hx hb dL_law_973 (by decide) (fun k14 => ?_) (fun k14 => ?_)
        · have h := w_t h k14
          refine lv_goto (tgt := 1389) hx hb dL_law_978 (by decide) ?_
          refine W.widen (k := k0 + 20) (n := n0 + 6000) (by omega) (by omega) ?_
          exact hk _ _ _ _ _ h hext cx w (lv_sub hl [2, 3, 4, 5, 6] rfl)
        · have h := w_f h k14
          refine lv_iconst (v := (0 : Int32)) hx hb dL_law_976 (by decide) ?_
          exact h.elim
      · have h := w_f h k13
        refine lv_lconst (v := 1) hx hb dL_law_967 (by decide) ?_
        refine lv_goto (tgt := 972) hx hb dL_law_968 (by decide) ?_
        refine W.lcmp hx hb dL_law_972 ?_
        refine lv_if_eq (tgt := 978) hx hb dL_law_973 (by decide) (fun k15 => ?_) (fun k15 => ?_)
        · have h := w_t h k15
          refine lv_goto (tgt := 1389) hx hb dL_law_978 (by decide) ?_
          refine W.widen (k := k0 + 20) (n := n0 + 6000) (by omega) (by omega) ?_
          exact hk _ _ _ _ _ h hext cx w (lv_sub hl [2, 3, 4, 5, 6] rfl)
        · have h := w_f h k15
          refine lv_iconst (v := (0 : Int32)) hx hb dL_law_976 (by decide) ?_
          exact h.elim
  · have h := w_f h k10
    refine lv_iconst (v := (0 : Int32)) hx hb dL_law_952 (by decide) ?_
    exact h.elim
def fc_14 (G : gS) (M : mS) (x mm o : Nat) (c1 c2 c3 : Int32) (post : gS → mS → Prop) : Prop := p_cl (m_L_place G M x c1 c2 c3 o) (fun M1 r2 => p_cl (m_X12_place_ G M1 mm c1 c2 c3) (fun M4 r5 => p_cl (m_X12_thrown G M4 mm) (fun M7 r8 => (p_if (r8 = r2) ((p_if (r2 = 0) (p_ix (0 : Int32) (gN G o) ((p_if ((lg_cmp (mJ M7 o (Int32.toNatClampNeg (0 : Int32))) (Int32.toInt64 r5)) = 0) (post G M7) (False)))) (post G M7))) (False)))))
set_option maxHeartbeats 4000000 in
set_option maxRecDepth 100000 in
theorem lc_14 {p : Program} {e : Env} {s : State} {m : MethodId} {args : Array Value} {below : List Frame} {meth : Method} {c : Code} {A : Nat → Prop} {l : Launch} {D : va_G} {cy : cyS} {G : gS} {M : mS} {H : Heap} {locs : List Loc} {ls : Array Slot} {Q : State → Prop} {x mm o b L k0 n0 : Nat} {xs : Nat → Int32} {i c1 c2 c3 : Int32} {post : gS → mS → Prop} (hst : l.stackTraces = false) (cx : cX p s m args meth c cL_law RL 9 (some .boolean) wsL_law D cy G A) (w : wd D cy G M A s.heap H locs) (hl : lv_has ls 9 [(0, .ref b), (1, .ref x), (2, .ref mm), (3, .ref o), (4, .int i)]) (hX : va_X b L xs s s.heap ∧ b < s.heap.size ∧ ¬ A b) (hkk : k0 + 20 ≤ 601024 ∧ n0 + 6000 ≤ 7293034) (hL1 : x ∈ gL G) (hK1 : gK G x = 8) (hL2 : mm ∈ gL G) (hK2 : gK G mm = 11) (hL3 : o ∈ gL G) (hK3 : gK G o = 13) (hi1 : vp_in (i + (1 : Int32)) L) (hc1 : c1 = xs (Int32.toNatClampNeg (i + (1 : Int32)))) (hi2 : vp_in (i + (2 : Int32)) L) (hc2 : c2 = xs (Int32.toNatClampNeg (i + (2 : Int32)))) (hi3 : vp_in (i + (3 : Int32)) L) (hc3 : c3 = xs (Int32.toNatClampNeg (i + (3 : Int32)))) (h : fc_14 G M x mm o c1 c2 c3 post) (hk : ∀ (G1 : gS) (M1 : mS) (H1 : Heap) (locs1 : List Loc) (ls1 : Array Slot), post G1 M1 → ext G G1 → cX p s m args meth c cL_law RL 9 (some .boolean) wsL_law D cy G1 A → wd D cy G1 M1 A s.heap H1 locs1 → lv_has ls1 9 [(0, .ref b), (1, .ref x), (2, .ref mm), (3, .ref o), (4, .int i)] → W p l e room_1 s m args below meth c H1 locs1 (k0 + 20) (n0 + 6000) Q (F0 m 1389 ls1 [])) : W p l e room_1 s m args below meth c H locs k0 n0 Q (F0 m 981 ls []) := by
  obtain ⟨hx, hb, hml, hown, hts, hr, hlocks, hK, hA, hG, hsx⟩ := id cx
  obtain ⟨hkc, hks⟩ := hkk
  have hext := ext_rf (G := G)
  unfold fc_14 at h
  refine lv_aload_n hx hb dL_law_981 rfl (lv_at hl 1 rfl) ?_
  refine lv_aload_n hx hb dL_law_982 rfl (lv_at hl 0 rfl) ?_
  refine lv_iload hx hb dL_law_983 (lv_at hl 4 rfl) ?_
  refine lv_iconst (v := (1 : Int32)) hx hb dL_law_985 (by decide) ?_
  refine lv_iadd hx hb dL_law_986 ?_
  refine va_sld hx hb hX.1 hX.2.1 hX.2.2 w.2.2 hi1 dL_law_987 ?_
  refine r_topI hc1 ?_
  refine lv_aload_n hx hb dL_law_988 rfl (lv_at hl 0 rfl) ?_
  refine lv_iload hx hb dL_law_989 (lv_at hl 4 rfl) ?_
  refine lv_iconst (v := (2 : Int32)) hx hb dL_law_991 (by decide) ?_
  refine lv_iadd hx hb dL_law_992 ?_
  refine va_sld hx hb hX.1 hX.2.1 hX.2.2 w.2.2 hi2 dL_law_993 ?_
  refine r_topI hc2 ?_
  refine lv_aload_n hx hb dL_law_994 rfl (lv_at hl 0 rfl) ?_
  refine lv_iload hx hb dL_law_995 (lv_at hl 4 rfl) ?_
  refine lv_iconst (v := (3 : Int32)) hx hb dL_law_997 (by decide) ?_
  refine lv_iadd hx hb dL_law_998 ?_
  refine va_sld hx hb hX.1 hX.2.1 hX.2.2 w.2.2 hi3 dL_law_999 ?_
  refine r_topI hc3 ?_
  refine lv_aload_n hx hb dL_law_1000 rfl (lv_at hl 3 rfl) ?_
  obtain ⟨M1, r2, y3, h⟩ := w_cl h
  refine r_callSW (As := [.ref x, .int c1, .int c2, .int c3, .ref o]) (rest := []) cx w ⟨by show _ ≤ 601024; omega, by show _ ≤ 7293034; omega⟩ hl.1 (k_L_place hG hst hL1 hK1 hL3 hK3 y3) (vx_cwSW 5 hts gL_law_L_place rfl rfl rfl (by decide +kernel) ⟨Nat.le_of_ble_eq_true rfl, Nat.le_of_ble_eq_true rfl⟩) rfl rfl (Nat.le_of_ble_eq_true rfl) dL_law_1001 (fun H locs w => ?_)
  refine lv_istore (lv' := [(5, .int r2), (0, .ref b), (1, .ref x), (2, .ref mm), (3, .ref o), (4, .int i)]) hx hb dL_law_1004 hl (by decide) rfl (fun ls hl => ?_)
  refine lv_aload_n hx hb dL_law_1006 rfl (lv_at hl 3 rfl) ?_
  refine lv_aload_n hx hb dL_law_1007 rfl (lv_at hl 1 rfl) ?_
  refine lv_iload hx hb dL_law_1008 (lv_at hl 5 rfl) ?_
  refine lv_iconst (v := (1 : Int32)) hx hb dL_law_1010 (by decide) ?_
  refine lv_iadd hx hb dL_law_1011 ?_
  refine va_sld hx hb hX.1 hX.2.1 hX.2.2 w.2.2 hi1 dL_law_1012 ?_
  refine r_topI hc1 ?_
  refine lv_aload_n hx hb dL_law_1013 rfl (lv_at hl 1 rfl) ?_
  refine lv_iload hx hb dL_law_1014 (lv_at hl 5 rfl) ?_
  refine lv_iconst (v := (2 : Int32)) hx hb dL_law_1016 (by decide) ?_
  refine lv_iadd hx hb dL_law_1017 ?_
  refine va_sld hx hb hX.1 hX.2.1 hX.2.2 w.2.2 hi2 dL_law_1018 ?_
  refine r_topI hc2 ?_
  refine lv_aload_n hx hb dL_law_1019 rfl (lv_at hl 1 rfl) ?_
  refine lv_iload hx hb dL_law_1020 (lv_at hl 5 rfl) ?_
  refine lv_iconst (v := (3 : Int32)) hx hb dL_law_1022 (by decide) ?_
  refine lv_iadd hx hb dL_law_1023 ?_
  refine va_sld hx hb hX.1 hX.2.1 hX.2.2 w.2.2 hi3 dL_law_1024 ?_
  refine r_topI hc3 ?_
  obtain ⟨M4, r5, y6, h⟩ := w_cl h
  refine r_callVi (As := [.int c1, .int c2, .int c3]) (rest := []) cx w ⟨by show _ ≤ 601024; omega, by show _ ≤ 7293034; omega⟩ hl.1 (k_X12_place_ hG hL2 hK2 y6) (cwV 3 hts gL_law_X12_place_ rfl rfl rfl (by decide +kernel) ⟨Nat.le_of_ble_eq_true rfl, Nat.le_of_ble_eq_true rfl⟩) hL2 hK2 (by decide) rfl rfl rfl (Nat.le_of_ble_eq_true rfl) dL_law_1025 (fun H locs w => ?_)
  refine lv_istore (lv' := [(6, .int r5), (5, .int r2), (0, .ref b), (1, .ref x), (2, .ref mm), (3, .ref o), (4, .int i)]) hx hb dL_law_1028 hl (by decide) rfl (fun ls hl => ?_)
  refine lv_aload_n hx hb dL_law_1030 rfl (lv_at hl 4 rfl) ?_
  obtain ⟨M7, r8, y9, h⟩ := w_cl h
  refine r_callVi (As := []) (rest := []) cx w ⟨by show _ ≤ 601024; omega, by show _ ≤ 7293034; omega⟩ hl.1 (k_X12_thrown hG hL2 hK2 y9) (cwV 0 hts gL_law_X12_thrown rfl rfl rfl (by decide +kernel) ⟨Nat.le_of_ble_eq_true rfl, Nat.le_of_ble_eq_true rfl⟩) hL2 hK2 (by decide) rfl rfl rfl (Nat.le_of_ble_eq_true rfl) dL_law_1031 (fun H locs w => ?_)
  refine lv_iload hx hb dL_law_1034 (lv_at hl 1 rfl) ?_
  refine lv_icmp_eq (tgt := 1041) hx hb dL_law_1036 (by decide) (fun k10 => ?_) (fun k10 => ?_)
  · have h := w_t h k10
    refine lv_iload hx hb dL_law_1041 (lv_at hl 1 rfl) ?_
    refine lv_if_ne (tgt := 1058) hx hb dL_law_1043 (by decide) (fun k11 => ?_) (fun k11 => ?_)
    · have h := w_f h k11
      refine lv_goto (tgt := 1389) hx hb dL_law_1058 (by decide) ?_
      refine W.widen (k := k0 + 20) (n := n0 + 6000) (by omega) (by omega) ?_
      exact hk _ _ _ _ _ h hext cx w (lv_sub hl [2, 3, 4, 5, 6] rfl)
    · have h := w_t h k11
      refine lv_aload_n hx hb dL_law_1046 rfl (lv_at hl 5 rfl) ?_
      refine lv_iconst (v := (0 : Int32)) hx hb dL_law_1047 (by decide) ?_
      obtain ⟨z12, h⟩ := w_ix h
      refine r_lald cx w hL3 hK3 z12 dL_law_1048 ?_
      refine lv_iload hx hb dL_law_1049 (lv_at hl 0 rfl) ?_
      refine lv_i2l (v := (Int32.toInt64 r5)) hx hb dL_law_1051 rfl ?_
      refine W.lcmp hx hb dL_law_1052 ?_
      refine lv_if_eq (tgt := 1058) hx hb dL_law_1053 (by decide) (fun k13 => ?_) (fun k13 => ?_)
      · have h := w_t h k13
        refine lv_goto (tgt := 1389) hx hb dL_law_1058 (by decide) ?_
        refine W.widen (k := k0 + 20) (n := n0 + 6000) (by omega) (by omega) ?_
        exact hk _ _ _ _ _ h hext cx w (lv_sub hl [2, 3, 4, 5, 6] rfl)
      · have h := w_f h k13
        refine lv_iconst (v := (0 : Int32)) hx hb dL_law_1056 (by decide) ?_
        exact h.elim
  · have h := w_f h k10
    refine lv_iconst (v := (0 : Int32)) hx hb dL_law_1039 (by decide) ?_
    exact h.elim
def fc_15 (G : gS) (M : mS) (x mm o : Nat) (c1 : Int32) (post : gS → mS → Prop) : Prop := p_cl (m_L_pass G M x c1 o) (fun M1 r2 => p_cl (m_X12_pass G M1 mm c1) (fun M4 r5 => p_cl (m_X12_thrown G M4 mm) (fun M7 r8 => (p_if (r8 = r2) ((p_if (r2 = 0) (p_ix (0 : Int32) (gN G o) ((p_if ((lg_cmp (mJ M7 o (Int32.toNatClampNeg (0 : Int32))) (Int32.toInt64 r5)) = 0) (post G M7) (False)))) (post G M7))) (False)))))
set_option maxHeartbeats 4000000 in
set_option maxRecDepth 100000 in
theorem lc_15 {p : Program} {e : Env} {s : State} {m : MethodId} {args : Array Value} {below : List Frame} {meth : Method} {c : Code} {A : Nat → Prop} {l : Launch} {D : va_G} {cy : cyS} {G : gS} {M : mS} {H : Heap} {locs : List Loc} {ls : Array Slot} {Q : State → Prop} {x mm o b L k0 n0 : Nat} {xs : Nat → Int32} {i c1 : Int32} {post : gS → mS → Prop} (hst : l.stackTraces = false) (cx : cX p s m args meth c cL_law RL 9 (some .boolean) wsL_law D cy G A) (w : wd D cy G M A s.heap H locs) (hl : lv_has ls 9 [(0, .ref b), (1, .ref x), (2, .ref mm), (3, .ref o), (4, .int i)]) (hX : va_X b L xs s s.heap ∧ b < s.heap.size ∧ ¬ A b) (hkk : k0 + 20 ≤ 601024 ∧ n0 + 6000 ≤ 7293034) (hL1 : x ∈ gL G) (hK1 : gK G x = 8) (hL2 : mm ∈ gL G) (hK2 : gK G mm = 11) (hL3 : o ∈ gL G) (hK3 : gK G o = 13) (hi1 : vp_in (i + (1 : Int32)) L) (hc1 : c1 = xs (Int32.toNatClampNeg (i + (1 : Int32)))) (h : fc_15 G M x mm o c1 post) (hk : ∀ (G1 : gS) (M1 : mS) (H1 : Heap) (locs1 : List Loc) (ls1 : Array Slot), post G1 M1 → ext G G1 → cX p s m args meth c cL_law RL 9 (some .boolean) wsL_law D cy G1 A → wd D cy G1 M1 A s.heap H1 locs1 → lv_has ls1 9 [(0, .ref b), (1, .ref x), (2, .ref mm), (3, .ref o), (4, .int i)] → W p l e room_1 s m args below meth c H1 locs1 (k0 + 20) (n0 + 6000) Q (F0 m 1389 ls1 [])) : W p l e room_1 s m args below meth c H locs k0 n0 Q (F0 m 1061 ls []) := by
  obtain ⟨hx, hb, hml, hown, hts, hr, hlocks, hK, hA, hG, hsx⟩ := id cx
  obtain ⟨hkc, hks⟩ := hkk
  have hext := ext_rf (G := G)
  unfold fc_15 at h
  refine lv_aload_n hx hb dL_law_1061 rfl (lv_at hl 1 rfl) ?_
  refine lv_aload_n hx hb dL_law_1062 rfl (lv_at hl 0 rfl) ?_
  refine lv_iload hx hb dL_law_1063 (lv_at hl 4 rfl) ?_
  refine lv_iconst (v := (1 : Int32)) hx hb dL_law_1065 (by decide) ?_
  refine lv_iadd hx hb dL_law_1066 ?_
  refine va_sld hx hb hX.1 hX.2.1 hX.2.2 w.2.2 hi1 dL_law_1067 ?_
  refine r_topI hc1 ?_
  refine lv_aload_n hx hb dL_law_1068 rfl (lv_at hl 3 rfl) ?_
  obtain ⟨M1, r2, y3, h⟩ := w_cl h
  refine r_callSW (As := [.ref x, .int c1, .ref o]) (rest := []) cx w ⟨by show _ ≤ 601024; omega, by show _ ≤ 7293034; omega⟩ hl.1 (k_L_pass hG hst hL1 hK1 hL3 hK3 y3) (vx_cwSW 3 hts gL_law_L_pass rfl rfl rfl (by decide +kernel) ⟨Nat.le_of_ble_eq_true rfl, Nat.le_of_ble_eq_true rfl⟩) rfl rfl (Nat.le_of_ble_eq_true rfl) dL_law_1069 (fun H locs w => ?_)
  refine lv_istore (lv' := [(5, .int r2), (0, .ref b), (1, .ref x), (2, .ref mm), (3, .ref o), (4, .int i)]) hx hb dL_law_1072 hl (by decide) rfl (fun ls hl => ?_)
  refine lv_aload_n hx hb dL_law_1074 rfl (lv_at hl 3 rfl) ?_
  refine lv_aload_n hx hb dL_law_1075 rfl (lv_at hl 1 rfl) ?_
  refine lv_iload hx hb dL_law_1076 (lv_at hl 5 rfl) ?_
  refine lv_iconst (v := (1 : Int32)) hx hb dL_law_1078 (by decide) ?_
  refine lv_iadd hx hb dL_law_1079 ?_
  refine va_sld hx hb hX.1 hX.2.1 hX.2.2 w.2.2 hi1 dL_law_1080 ?_
  refine r_topI hc1 ?_
  obtain ⟨M4, r5, y6, h⟩ := w_cl h
  refine r_callVi (As := [.int c1]) (rest := []) cx w ⟨by show _ ≤ 601024; omega, by show _ ≤ 7293034; omega⟩ hl.1 (k_X12_pass hG hL2 hK2 y6) (cwV 1 hts gL_law_X12_pass rfl rfl rfl (by decide +kernel) ⟨Nat.le_of_ble_eq_true rfl, Nat.le_of_ble_eq_true rfl⟩) hL2 hK2 (by decide) rfl rfl rfl (Nat.le_of_ble_eq_true rfl) dL_law_1081 (fun H locs w => ?_)
  refine lv_istore (lv' := [(6, .int r5), (5, .int r2), (0, .ref b), (1, .ref x), (2, .ref mm), (3, .ref o), (4, .int i)]) hx hb dL_law_1084 hl (by decide) rfl (fun ls hl => ?_)
  refine lv_aload_n hx hb dL_law_1086 rfl (lv_at hl 4 rfl) ?_
  obtain ⟨M7, r8, y9, h⟩ := w_cl h
  refine r_callVi (As := []) (rest := []) cx w ⟨by show _ ≤ 601024; omega, by show _ ≤ 7293034; omega⟩ hl.1 (k_X12_thrown hG hL2 hK2 y9) (cwV 0 hts gL_law_X12_thrown rfl rfl rfl (by decide +kernel) ⟨Nat.le_of_ble_eq_true rfl, Nat.le_of_ble_eq_true rfl⟩) hL2 hK2 (by decide) rfl rfl rfl (Nat.le_of_ble_eq_true rfl) dL_law_1087 (fun H locs w => ?_)
  refine lv_iload hx hb dL_law_1090 (lv_at hl 1 rfl) ?_
  refine lv_icmp_eq (tgt := 1097) hx hb dL_law_1092 (by decide) (fun k10 => ?_) (fun k10 => ?_)
  · have h := w_t h k10
    refine lv_iload hx hb dL_law_1097 (lv_at hl 1 rfl) ?_
    refine lv_if_ne (tgt := 1114) hx hb dL_law_1099 (by decide) (fun k11 => ?_) (fun k11 => ?_)
    · have h := w_f h k11
      refine lv_goto (tgt := 1389) hx hb dL_law_1114 (by decide) ?_
      refine W.widen (k := k0 + 20) (n := n0 + 6000) (by omega) (by omega) ?_
      exact hk _ _ _ _ _ h hext cx w (lv_sub hl [2, 3, 4, 5, 6] rfl)
    · have h := w_t h k11
      refine lv_aload_n hx hb dL_law_1102 rfl (lv_at hl 5 rfl) ?_
      refine lv_iconst (v := (0 : Int32)) hx hb dL_law_1103 (by decide) ?_
      obtain ⟨z12, h⟩ := w_ix h
      refine r_lald cx w hL3 hK3 z12 dL_law_1104 ?_
      refine lv_iload hx hb dL_law_1105 (lv_at hl 0 rfl) ?_
      refine lv_i2l (v := (Int32.toInt64 r5)) hx hb dL_law_1107 rfl ?_
      refine W.lcmp hx hb dL_law_1108 ?_
      refine lv_if_eq (tgt := 1114) hx hb dL_law_1109 (by decide) (fun k13 => ?_) (fun k13 => ?_)
      · have h := w_t h k13
        refine lv_goto (tgt := 1389) hx hb dL_law_1114 (by decide) ?_
        refine W.widen (k := k0 + 20) (n := n0 + 6000) (by omega) (by omega) ?_
        exact hk _ _ _ _ _ h hext cx w (lv_sub hl [2, 3, 4, 5, 6] rfl)
      · have h := w_f h k13
        refine lv_iconst (v := (0 : Int32)) hx hb dL_law_1112 (by decide) ?_
        exact h.elim
  · have h := w_f h k10
    refine lv_iconst (v := (0 : Int32)) hx hb dL_law_1095 (by decide) ?_
    exact h.elim
def fc_16 (G : gS) (M : mS) (x mm o : Nat) (c1 c2 : Int32) (post : gS → mS → Prop) : Prop := p_cl (m_L_foresee G M x c1 c2 o) (fun M1 r2 => p_cl (m_X12_foresee G M1 mm c1 c2) (fun M4 r5 => p_cl (m_X12_thrown G M4 mm) (fun M7 r8 => (p_if (r8 = r2) ((p_if (r2 = 0) (p_ix (0 : Int32) (gN G o) ((p_if ((lg_cmp (mJ M7 o (Int32.toNatClampNeg (0 : Int32))) (Int32.toInt64 r5)) = 0) (post G M7) (False)))) (post G M7))) (False)))))
set_option maxHeartbeats 4000000 in
set_option maxRecDepth 100000 in
theorem lc_16 {p : Program} {e : Env} {s : State} {m : MethodId} {args : Array Value} {below : List Frame} {meth : Method} {c : Code} {A : Nat → Prop} {l : Launch} {D : va_G} {cy : cyS} {G : gS} {M : mS} {H : Heap} {locs : List Loc} {ls : Array Slot} {Q : State → Prop} {x mm o b L k0 n0 : Nat} {xs : Nat → Int32} {i c1 c2 : Int32} {post : gS → mS → Prop} (hst : l.stackTraces = false) (cx : cX p s m args meth c cL_law RL 9 (some .boolean) wsL_law D cy G A) (w : wd D cy G M A s.heap H locs) (hl : lv_has ls 9 [(0, .ref b), (1, .ref x), (2, .ref mm), (3, .ref o), (4, .int i)]) (hX : va_X b L xs s s.heap ∧ b < s.heap.size ∧ ¬ A b) (hkk : k0 + 20 ≤ 601024 ∧ n0 + 6000 ≤ 7293034) (hL1 : x ∈ gL G) (hK1 : gK G x = 8) (hL2 : mm ∈ gL G) (hK2 : gK G mm = 11) (hL3 : o ∈ gL G) (hK3 : gK G o = 13) (hi1 : vp_in (i + (1 : Int32)) L) (hc1 : c1 = xs (Int32.toNatClampNeg (i + (1 : Int32)))) (hi2 : vp_in (i + (2 : Int32)) L) (hc2 : c2 = xs (Int32.toNatClampNeg (i + (2 : Int32)))) (h : fc_16 G M x mm o c1 c2 post) (hk : ∀ (G1 : gS) (M1 : mS) (H1 : Heap) (locs1 : List Loc) (ls1 : Array Slot), post G1 M1 → ext G G1 → cX p s m args meth c cL_law RL 9 (some .boolean) wsL_law D cy G1 A → wd D cy G1 M1 A s.heap H1 locs1 → lv_has ls1 9 [(0, .ref b), (1, .ref x), (2, .ref mm), (3, .ref o), (4, .int i)] → W p l e room_1 s m args below meth c H1 locs1 (k0 + 20) (n0 + 6000) Q (F0 m 1389 ls1 [])) : W p l e room_1 s m args below meth c H locs k0 n0 Q (F0 m 1117 ls []) := by
  obtain ⟨hx, hb, hml, hown, hts, hr, hlocks, hK, hA, hG, hsx⟩ := id cx
  obtain ⟨hkc, hks⟩ := hkk
  have hext := ext_rf (G := G)
  unfold fc_16 at h
  refine lv_aload_n hx hb dL_law_1117 rfl (lv_at hl 1 rfl) ?_
  refine lv_aload_n hx hb dL_law_1118 rfl (lv_at hl 0 rfl) ?_
  refine lv_iload hx hb dL_law_1119 (lv_at hl 4 rfl) ?_
  refine lv_iconst (v := (1 : Int32)) hx hb dL_law_1121 (by decide) ?_
  refine lv_iadd hx hb dL_law_1122 ?_
  refine va_sld hx hb hX.1 hX.2.1 hX.2.2 w.2.2 hi1 dL_law_1123 ?_
  refine r_topI hc1 ?_
  refine lv_aload_n hx hb dL_law_1124 rfl (lv_at hl 0 rfl) ?_
  refine lv_iload hx hb dL_law_1125 (lv_at hl 4 rfl) ?_
  refine lv_iconst (v := (2 : Int32)) hx hb dL_law_1127 (by decide) ?_
  refine lv_iadd hx hb dL_law_1128 ?_
  refine va_sld hx hb hX.1 hX.2.1 hX.2.2 w.2.2 hi2 dL_law_1129 ?_
  refine r_topI hc2 ?_
  refine lv_aload_n hx hb dL_law_1130 rfl (lv_at hl 3 rfl) ?_
  obtain ⟨M1, r2, y3, h⟩ := w_cl h
  refine r_callSW (As := [.ref x, .int c1, .int c2, .ref o]) (rest := []) cx w ⟨by show _ ≤ 601024; omega, by show _ ≤ 7293034; omega⟩ hl.1 (k_L_foresee hG hst hL1 hK1 hL3 hK3 y3) (vx_cwSW 4 hts gL_law_L_foresee rfl rfl rfl (by decide +kernel) ⟨Nat.le_of_ble_eq_true rfl, Nat.le_of_ble_eq_true rfl⟩) rfl rfl (Nat.le_of_ble_eq_true rfl) dL_law_1131 (fun H locs w => ?_)
  refine lv_istore (lv' := [(5, .int r2), (0, .ref b), (1, .ref x), (2, .ref mm), (3, .ref o), (4, .int i)]) hx hb dL_law_1134 hl (by decide) rfl (fun ls hl => ?_)
  refine lv_aload_n hx hb dL_law_1136 rfl (lv_at hl 3 rfl) ?_
  refine lv_aload_n hx hb dL_law_1137 rfl (lv_at hl 1 rfl) ?_
  refine lv_iload hx hb dL_law_1138 (lv_at hl 5 rfl) ?_
  refine lv_iconst (v := (1 : Int32)) hx hb dL_law_1140 (by decide) ?_
  refine lv_iadd hx hb dL_law_1141 ?_
  refine va_sld hx hb hX.1 hX.2.1 hX.2.2 w.2.2 hi1 dL_law_1142 ?_
  refine r_topI hc1 ?_
  refine lv_aload_n hx hb dL_law_1143 rfl (lv_at hl 1 rfl) ?_
  refine lv_iload hx hb dL_law_1144 (lv_at hl 5 rfl) ?_
  refine lv_iconst (v := (2 : Int32)) hx hb dL_law_1146 (by decide) ?_
  refine lv_iadd hx hb dL_law_1147 ?_
  refine va_sld hx hb hX.1 hX.2.1 hX.2.2 w.2.2 hi2 dL_law_1148 ?_
  refine r_topI hc2 ?_
  obtain ⟨M4, r5, y6, h⟩ := w_cl h
  refine r_callVi (As := [.int c1, .int c2]) (rest := []) cx w ⟨by show _ ≤ 601024; omega, by show _ ≤ 7293034; omega⟩ hl.1 (k_X12_foresee hG hL2 hK2 y6) (cwV 2 hts gL_law_X12_foresee rfl rfl rfl (by decide +kernel) ⟨Nat.le_of_ble_eq_true rfl, Nat.le_of_ble_eq_true rfl⟩) hL2 hK2 (by decide) rfl rfl rfl (Nat.le_of_ble_eq_true rfl) dL_law_1149 (fun H locs w => ?_)
  refine lv_istore (lv' := [(6, .int r5), (5, .int r2), (0, .ref b), (1, .ref x), (2, .ref mm), (3, .ref o), (4, .int i)]) hx hb dL_law_1152 hl (by decide) rfl (fun ls hl => ?_)
  refine lv_aload_n hx hb dL_law_1154 rfl (lv_at hl 4 rfl) ?_
  obtain ⟨M7, r8, y9, h⟩ := w_cl h
  refine r_callVi (As := []) (rest := []) cx w ⟨by show _ ≤ 601024; omega, by show _ ≤ 7293034; omega⟩ hl.1 (k_X12_thrown hG hL2 hK2 y9) (cwV 0 hts gL_law_X12_thrown rfl rfl rfl (by decide +kernel) ⟨Nat.le_of_ble_eq_true rfl, Nat.le_of_ble_eq_true rfl⟩) hL2 hK2 (by decide) rfl rfl rfl (Nat.le_of_ble_eq_true rfl) dL_law_1155 (fun H locs w => ?_)
  refine lv_iload hx hb dL_law_1158 (lv_at hl 1 rfl) ?_
  refine lv_icmp_eq (tgt := 1165) hx hb dL_law_1160 (by decide) (fun k10 => ?_) (fun k10 => ?_)
  · have h := w_t h k10
    refine lv_iload hx hb dL_law_1165 (lv_at hl 1 rfl) ?_
    refine lv_if_ne (tgt := 1182) hx hb dL_law_1167 (by decide) (fun k11 => ?_) (fun k11 => ?_)
    · have h := w_f h k11
      refine lv_goto (tgt := 1389) hx hb dL_law_1182 (by decide) ?_
      refine W.widen (k := k0 + 20) (n := n0 + 6000) (by omega) (by omega) ?_
      exact hk _ _ _ _ _ h hext cx w (lv_sub hl [2, 3, 4, 5, 6] rfl)
    · have h := w_t h k11
      refine lv_aload_n hx hb dL_law_1170 rfl (lv_at hl 5 rfl) ?_
      refine lv_iconst (v := (0 : Int32)) hx hb dL_law_1171 (by decide) ?_
      obtain ⟨z12, h⟩ := w_ix h
      refine r_lald cx w hL3 hK3 z12 dL_law_1172 ?_
      refine lv_iload hx hb dL_law_1173 (lv_at hl 0 rfl) ?_
      refine lv_i2l (v := (Int32.toInt64 r5)) hx hb dL_law_1175 rfl ?_
      refine W.lcmp hx hb dL_law_1176 ?_
      refine lv_if_eq (tgt := 1182) hx hb dL_law_1177 (by decide) (fun k13 => ?_) (fun k13 => ?_)
      · have h := w_t h k13
        refine lv_goto (tgt := 1389) hx hb dL_law_1182 (by decide) ?_
        refine W.widen (k := k0 + 20) (n := n0 + 6000) (by omega) (by omega) ?_
        exact hk _ _ _ _ _ h hext cx w (lv_sub hl [2, 3, 4, 5, 6] rfl)
      · have h := w_f h k13
        refine lv_iconst (v := (0 : Int32)) hx hb dL_law_1180 (by decide) ?_
        exact h.elim
  · have h := w_f h k10
    refine lv_iconst (v := (0 : Int32)) hx hb dL_law_1163 (by decide) ?_
    exact h.elim
