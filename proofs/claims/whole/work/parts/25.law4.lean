def fc_17 (G : gS) (M : mS) (x mm o : Nat) (c1 c2 c3 : Int32) (post : gS → mS → Prop) : Prop := p_cl (m_L_until G M x c1 c2 c3 o) (fun M1 r2 => p_cl (m_X12_until G M1 mm c1 c2 c3) (fun M4 r5 => p_cl (m_X12_thrown G M4 mm) (fun M7 r8 => (p_if (r8 = r2) ((p_if (r2 = 0) (p_ix (0 : Int32) (gN G o) ((p_if ((lg_cmp (mJ M7 o (Int32.toNatClampNeg (0 : Int32))) (Int32.toInt64 r5)) = 0) (post G M7) (False)))) (post G M7))) (False)))))
set_option maxHeartbeats 4000000 in
set_option maxRecDepth 100000 in
theorem lc_17 {p : Program} {e : Env} {s : State} {m : MethodId} {args : Array Value} {below : List Frame} {meth : Method} {c : Code} {A : Nat → Prop} {l : Launch} {D : va_G} {cy : cyS} {G : gS} {M : mS} {H : Heap} {locs : List Loc} {ls : Array Slot} {Q : State → Prop} {x mm o b L k0 n0 : Nat} {xs : Nat → Int32} {i c1 c2 c3 : Int32} {post : gS → mS → Prop} (hst : l.stackTraces = false) (cx : cX p s m args meth c cL_law RL 9 (some .boolean) wsL_law D cy G A) (w : wd D cy G M A s.heap H locs) (hl : lv_has ls 9 [(0, .ref b), (1, .ref x), (2, .ref mm), (3, .ref o), (4, .int i)]) (hX : va_X b L xs s s.heap ∧ b < s.heap.size ∧ ¬ A b) (hkk : k0 + 20 ≤ 601024 ∧ n0 + 6000 ≤ 7293034) (hL1 : x ∈ gL G) (hK1 : gK G x = 8) (hL2 : mm ∈ gL G) (hK2 : gK G mm = 11) (hL3 : o ∈ gL G) (hK3 : gK G o = 13) (hi1 : vp_in (i + (1 : Int32)) L) (hc1 : c1 = xs (Int32.toNatClampNeg (i + (1 : Int32)))) (hi2 : vp_in (i + (2 : Int32)) L) (hc2 : c2 = xs (Int32.toNatClampNeg (i + (2 : Int32)))) (hi3 : vp_in (i + (3 : Int32)) L) (hc3 : c3 = xs (Int32.toNatClampNeg (i + (3 : Int32)))) (h : fc_17 G M x mm o c1 c2 c3 post) (hk : ∀ (G1 : gS) (M1 : mS) (H1 : Heap) (locs1 : List Loc) (ls1 : Array Slot), post G1 M1 → ext G G1 → cX p s m args meth c cL_law RL 9 (some .boolean) wsL_law D cy G1 A → wd D cy G1 M1 A s.heap H1 locs1 → lv_has ls1 9 [(0, .ref b), (1, .ref x), (2, .ref mm), (3, .ref o), (4, .int i)] → W p l e room_1 s m args below meth c H1 locs1 (k0 + 20) (n0 + 6000) Q (F0 m 1389 ls1 [])) : W p l e room_1 s m args below meth c H locs k0 n0 Q (F0 m 1185 ls []) := by
  obtain ⟨hx, hb, hml, hown, hts, hr, hlocks, hK, hA, hG, hsx⟩ := id cx
  obtain ⟨hkc, hks⟩ := hkk
  have hext := ext_rf (G := G)
  unfold fc_17 at h
  refine lv_aload_n hx hb dL_law_1185 rfl (lv_at hl 1 rfl) ?_
  refine lv_aload_n hx hb dL_law_1186 rfl (lv_at hl 0 rfl) ?_
  refine lv_iload hx hb dL_law_1187 (lv_at hl 4 rfl) ?_
  refine lv_iconst (v := (1 : Int32)) hx hb dL_law_1189 (by decide) ?_
  refine lv_iadd hx hb dL_law_1190 ?_
  refine va_sld hx hb hX.1 hX.2.1 hX.2.2 w.2.2 hi1 dL_law_1191 ?_
  refine r_topI hc1 ?_
  refine lv_aload_n hx hb dL_law_1192 rfl (lv_at hl 0 rfl) ?_
  refine lv_iload hx hb dL_law_1193 (lv_at hl 4 rfl) ?_
  refine lv_iconst (v := (2 : Int32)) hx hb dL_law_1195 (by decide) ?_
  refine lv_iadd hx hb dL_law_1196 ?_
  refine va_sld hx hb hX.1 hX.2.1 hX.2.2 w.2.2 hi2 dL_law_1197 ?_
  refine r_topI hc2 ?_
  refine lv_aload_n hx hb dL_law_1198 rfl (lv_at hl 0 rfl) ?_
  refine lv_iload hx hb dL_law_1199 (lv_at hl 4 rfl) ?_
  refine lv_iconst (v := (3 : Int32)) hx hb dL_law_1201 (by decide) ?_
  refine lv_iadd hx hb dL_law_1202 ?_
  refine va_sld hx hb hX.1 hX.2.1 hX.2.2 w.2.2 hi3 dL_law_1203 ?_
  refine r_topI hc3 ?_
  refine lv_aload_n hx hb dL_law_1204 rfl (lv_at hl 3 rfl) ?_
  obtain ⟨M1, r2, y3, h⟩ := w_cl h
  refine r_callSW (As := [.ref x, .int c1, .int c2, .int c3, .ref o]) (rest := []) cx w ⟨by show _ ≤ 601024; omega, by show _ ≤ 7293034; omega⟩ hl.1 (k_L_until hG hst hL1 hK1 hL3 hK3 y3) (vx_cwSW 5 hts gL_law_L_until rfl rfl rfl (by decide +kernel) ⟨Nat.le_of_ble_eq_true rfl, Nat.le_of_ble_eq_true rfl⟩) rfl rfl (Nat.le_of_ble_eq_true rfl) dL_law_1205 (fun H locs w => ?_)
  refine lv_istore (lv' := [(5, .int r2), (0, .ref b), (1, .ref x), (2, .ref mm), (3, .ref o), (4, .int i)]) hx hb dL_law_1208 hl (by decide) rfl (fun ls hl => ?_)
  refine lv_aload_n hx hb dL_law_1210 rfl (lv_at hl 3 rfl) ?_
  refine lv_aload_n hx hb dL_law_1211 rfl (lv_at hl 1 rfl) ?_
  refine lv_iload hx hb dL_law_1212 (lv_at hl 5 rfl) ?_
  refine lv_iconst (v := (1 : Int32)) hx hb dL_law_1214 (by decide) ?_
  refine lv_iadd hx hb dL_law_1215 ?_
  refine va_sld hx hb hX.1 hX.2.1 hX.2.2 w.2.2 hi1 dL_law_1216 ?_
  refine r_topI hc1 ?_
  refine lv_aload_n hx hb dL_law_1217 rfl (lv_at hl 1 rfl) ?_
  refine lv_iload hx hb dL_law_1218 (lv_at hl 5 rfl) ?_
  refine lv_iconst (v := (2 : Int32)) hx hb dL_law_1220 (by decide) ?_
  refine lv_iadd hx hb dL_law_1221 ?_
  refine va_sld hx hb hX.1 hX.2.1 hX.2.2 w.2.2 hi2 dL_law_1222 ?_
  refine r_topI hc2 ?_
  refine lv_aload_n hx hb dL_law_1223 rfl (lv_at hl 1 rfl) ?_
  refine lv_iload hx hb dL_law_1224 (lv_at hl 5 rfl) ?_
  refine lv_iconst (v := (3 : Int32)) hx hb dL_law_1226 (by decide) ?_
  refine lv_iadd hx hb dL_law_1227 ?_
  refine va_sld hx hb hX.1 hX.2.1 hX.2.2 w.2.2 hi3 dL_law_1228 ?_
  refine r_topI hc3 ?_
  obtain ⟨M4, r5, y6, h⟩ := w_cl h
  refine r_callVi (As := [.int c1, .int c2, .int c3]) (rest := []) cx w ⟨by show _ ≤ 601024; omega, by show _ ≤ 7293034; omega⟩ hl.1 (k_X12_until hG hL2 hK2 y6) (cwV 3 hts gL_law_X12_until rfl rfl rfl (by decide +kernel) ⟨Nat.le_of_ble_eq_true rfl, Nat.le_of_ble_eq_true rfl⟩) hL2 hK2 (by decide) rfl rfl rfl (Nat.le_of_ble_eq_true rfl) dL_law_1229 (fun H locs w => ?_)
  refine lv_istore (lv' := [(6, .int r5), (5, .int r2), (0, .ref b), (1, .ref x), (2, .ref mm), (3, .ref o), (4, .int i)]) hx hb dL_law_1232 hl (by decide) rfl (fun ls hl => ?_)
  refine lv_aload_n hx hb dL_law_1234 rfl (lv_at hl 4 rfl) ?_
  obtain ⟨M7, r8, y9, h⟩ := w_cl h
  refine r_callVi (As := []) (rest := []) cx w ⟨by show _ ≤ 601024; omega, by show _ ≤ 7293034; omega⟩ hl.1 (k_X12_thrown hG hL2 hK2 y9) (cwV 0 hts gL_law_X12_thrown rfl rfl rfl (by decide +kernel) ⟨Nat.le_of_ble_eq_true rfl, Nat.le_of_ble_eq_true rfl⟩) hL2 hK2 (by decide) rfl rfl rfl (Nat.le_of_ble_eq_true rfl) dL_law_1235 (fun H locs w => ?_)
  refine lv_iload hx hb dL_law_1238 (lv_at hl 1 rfl) ?_
  refine lv_icmp_eq (tgt := 1245) hx hb dL_law_1240 (by decide) (fun k10 => ?_) (fun k10 => ?_)
  · have h := w_t h k10
    refine lv_iload hx hb dL_law_1245 (lv_at hl 1 rfl) ?_
    refine lv_if_ne (tgt := 1262) hx hb dL_law_1247 (by decide) (fun k11 => ?_) (fun k11 => ?_)
    · have h := w_f h k11
      refine lv_goto (tgt := 1389) hx hb dL_law_1262 (by decide) ?_
      refine W.widen (k := k0 + 20) (n := n0 + 6000) (by omega) (by omega) ?_
      exact hk _ _ _ _ _ h hext cx w (lv_sub hl [2, 3, 4, 5, 6] rfl)
    · have h := w_t h k11
      refine lv_aload_n hx hb dL_law_1250 rfl (lv_at hl 5 rfl) ?_
      refine lv_iconst (v := (0 : Int32)) hx hb dL_law_1251 (by decide) ?_
      obtain ⟨z12, h⟩ := w_ix h
      refine r_lald cx w hL3 hK3 z12 dL_law_1252 ?_
      refine lv_iload hx hb dL_law_1253 (lv_at hl 0 rfl) ?_
      refine lv_i2l (v := (Int32.toInt64 r5)) hx hb dL_law_1255 rfl ?_
      refine W.lcmp hx hb dL_law_1256 ?_
      refine lv_if_eq (tgt := 1262) hx hb dL_law_1257 (by decide) (fun k13 => ?_) (fun k13 => ?_)
      · have h := w_t h k13
        refine lv_goto (tgt := 1389) hx hb dL_law_1262 (by decide) ?_
        refine W.widen (k := k0 + 20) (n := n0 + 6000) (by omega) (by omega) ?_
        exact hk _ _ _ _ _ h hext cx w (lv_sub hl [2, 3, 4, 5, 6] rfl)
      · have h := w_f h k13
        refine lv_iconst (v := (0 : Int32)) hx hb dL_law_1260 (by decide) ?_
        exact h.elim
  · have h := w_f h k10
    refine lv_iconst (v := (0 : Int32)) hx hb dL_law_1243 (by decide) ?_
    exact h.elim
def fc_18 (G : gS) (M : mS) (x mm o : Nat) (post : gS → mS → Prop) : Prop := p_cl (m_X9_found G M x) (fun M1 r2 => p_cl (m_X12_found G M1 mm) (fun M4 r5 => (p_if (r2 = r5) (post G M4) (False))))
set_option maxHeartbeats 4000000 in
set_option maxRecDepth 100000 in
theorem lc_18 {p : Program} {e : Env} {s : State} {m : MethodId} {args : Array Value} {below : List Frame} {meth : Method} {c : Code} {A : Nat → Prop} {l : Launch} {D : va_G} {cy : cyS} {G : gS} {M : mS} {H : Heap} {locs : List Loc} {ls : Array Slot} {Q : State → Prop} {x mm o b L k0 n0 : Nat} {xs : Nat → Int32} {i  : Int32} {post : gS → mS → Prop} (hst : l.stackTraces = false) (cx : cX p s m args meth c cL_law RL 9 (some .boolean) wsL_law D cy G A) (w : wd D cy G M A s.heap H locs) (hl : lv_has ls 9 [(0, .ref b), (1, .ref x), (2, .ref mm), (3, .ref o), (4, .int i)]) (hX : va_X b L xs s s.heap ∧ b < s.heap.size ∧ ¬ A b) (hkk : k0 + 20 ≤ 601024 ∧ n0 + 6000 ≤ 7293034) (hL1 : x ∈ gL G) (hK1 : gK G x = 8) (hL2 : mm ∈ gL G) (hK2 : gK G mm = 11) (hL3 : o ∈ gL G) (hK3 : gK G o = 13)  (h : fc_18 G M x mm o  post) (hk : ∀ (G1 : gS) (M1 : mS) (H1 : Heap) (locs1 : List Loc) (ls1 : Array Slot), post G1 M1 → ext G G1 → cX p s m args meth c cL_law RL 9 (some .boolean) wsL_law D cy G1 A → wd D cy G1 M1 A s.heap H1 locs1 → lv_has ls1 9 [(0, .ref b), (1, .ref x), (2, .ref mm), (3, .ref o), (4, .int i)] → W p l e room_1 s m args below meth c H1 locs1 (k0 + 20) (n0 + 6000) Q (F0 m 1389 ls1 [])) : W p l e room_1 s m args below meth c H locs k0 n0 Q (F0 m 1265 ls []) := by
  obtain ⟨hx, hb, hml, hown, hts, hr, hlocks, hK, hA, hG, hsx⟩ := id cx
  obtain ⟨hkc, hks⟩ := hkk
  have hext := ext_rf (G := G)
  unfold fc_18 at h
  refine lv_aload_n hx hb dL_law_1265 rfl (lv_at hl 1 rfl) ?_
  obtain ⟨M1, r2, y3, h⟩ := w_cl h
  refine r_callVi (As := []) (rest := []) cx w ⟨by show _ ≤ 601024; omega, by show _ ≤ 7293034; omega⟩ hl.1 (k_X9_found hG hL1 hK1 y3) (cwV 0 hts gL_law_X9_found rfl rfl rfl (by decide +kernel) ⟨Nat.le_of_ble_eq_true rfl, Nat.le_of_ble_eq_true rfl⟩) hL1 hK1 (by decide) rfl rfl rfl (Nat.le_of_ble_eq_true rfl) dL_law_1266 (fun H locs w => ?_)
  refine lv_aload_n hx hb dL_law_1269 rfl (lv_at hl 2 rfl) ?_
  obtain ⟨M4, r5, y6, h⟩ := w_cl h
  refine r_callVi (As := []) (rest := [.int r2]) cx w ⟨by show _ ≤ 601024; omega, by show _ ≤ 7293034; omega⟩ hl.1 (k_X12_found hG hL2 hK2 y6) (cwV 0 hts gL_law_X12_found rfl rfl rfl (by decide +kernel) ⟨Nat.le_of_ble_eq_true rfl, Nat.le_of_ble_eq_true rfl⟩) hL2 hK2 (by decide) rfl rfl rfl (Nat.le_of_ble_eq_true rfl) dL_law_1270 (fun H locs w => ?_)
  refine lv_icmp_eq (tgt := 1389) hx hb dL_law_1273 (by decide) (fun k7 => ?_) (fun k7 => ?_)
  · have h := w_t h k7
    refine W.widen (k := k0 + 20) (n := n0 + 6000) (by omega) (by omega) ?_
    exact hk _ _ _ _ _ h hext cx w (lv_sub hl [0, 1, 2, 3, 4] rfl)
  · have h := w_f h k7
    refine lv_iconst (v := (0 : Int32)) hx hb dL_law_1276 (by decide) ?_
    exact h.elim
def fc_19 (G : gS) (M : mS) (x mm o : Nat) (c1 : Int32) (post : gS → mS → Prop) : Prop := p_cl (m_L_advise G M x c1 o) (fun M1 r2 => p_cl (m_X12_advise G M1 mm c1) (fun M4 r5 => p_cl (m_X12_thrown G M4 mm) (fun M7 r8 => (p_if (r8 = r2) ((p_if (r2 = 0) (p_ix (0 : Int32) (gN G o) ((p_if ((lg_cmp (mJ M7 o (Int32.toNatClampNeg (0 : Int32))) (Int32.toInt64 r5)) = 0) (post G M7) (False)))) (post G M7))) (False)))))
set_option maxHeartbeats 4000000 in
set_option maxRecDepth 100000 in
theorem lc_19 {p : Program} {e : Env} {s : State} {m : MethodId} {args : Array Value} {below : List Frame} {meth : Method} {c : Code} {A : Nat → Prop} {l : Launch} {D : va_G} {cy : cyS} {G : gS} {M : mS} {H : Heap} {locs : List Loc} {ls : Array Slot} {Q : State → Prop} {x mm o b L k0 n0 : Nat} {xs : Nat → Int32} {i c1 : Int32} {post : gS → mS → Prop} (hst : l.stackTraces = false) (cx : cX p s m args meth c cL_law RL 9 (some .boolean) wsL_law D cy G A) (w : wd D cy G M A s.heap H locs) (hl : lv_has ls 9 [(0, .ref b), (1, .ref x), (2, .ref mm), (3, .ref o), (4, .int i)]) (hX : va_X b L xs s s.heap ∧ b < s.heap.size ∧ ¬ A b) (hkk : k0 + 20 ≤ 601024 ∧ n0 + 6000 ≤ 7293034) (hL1 : x ∈ gL G) (hK1 : gK G x = 8) (hL2 : mm ∈ gL G) (hK2 : gK G mm = 11) (hL3 : o ∈ gL G) (hK3 : gK G o = 13) (hi1 : vp_in (i + (1 : Int32)) L) (hc1 : c1 = xs (Int32.toNatClampNeg (i + (1 : Int32)))) (h : fc_19 G M x mm o c1 post) (hk : ∀ (G1 : gS) (M1 : mS) (H1 : Heap) (locs1 : List Loc) (ls1 : Array Slot), post G1 M1 → ext G G1 → cX p s m args meth c cL_law RL 9 (some .boolean) wsL_law D cy G1 A → wd D cy G1 M1 A s.heap H1 locs1 → lv_has ls1 9 [(0, .ref b), (1, .ref x), (2, .ref mm), (3, .ref o), (4, .int i)] → W p l e room_1 s m args below meth c H1 locs1 (k0 + 20) (n0 + 6000) Q (F0 m 1389 ls1 [])) : W p l e room_1 s m args below meth c H locs k0 n0 Q (F0 m 1278 ls []) := by
  obtain ⟨hx, hb, hml, hown, hts, hr, hlocks, hK, hA, hG, hsx⟩ := id cx
  obtain ⟨hkc, hks⟩ := hkk
  have hext := ext_rf (G := G)
  unfold fc_19 at h
  refine lv_aload_n hx hb dL_law_1278 rfl (lv_at hl 1 rfl) ?_
  refine lv_aload_n hx hb dL_law_1279 rfl (lv_at hl 0 rfl) ?_
  refine lv_iload hx hb dL_law_1280 (lv_at hl 4 rfl) ?_
  refine lv_iconst (v := (1 : Int32)) hx hb dL_law_1282 (by decide) ?_
  refine lv_iadd hx hb dL_law_1283 ?_
  refine va_sld hx hb hX.1 hX.2.1 hX.2.2 w.2.2 hi1 dL_law_1284 ?_
  refine r_topI hc1 ?_
  refine lv_aload_n hx hb dL_law_1285 rfl (lv_at hl 3 rfl) ?_
  obtain ⟨M1, r2, y3, h⟩ := w_cl h
  refine r_callSW (As := [.ref x, .int c1, .ref o]) (rest := []) cx w ⟨by show _ ≤ 601024; omega, by show _ ≤ 7293034; omega⟩ hl.1 (k_L_advise hG hst hL1 hK1 hL3 hK3 y3) (vx_cwSW 3 hts gL_law_L_advise rfl rfl rfl (by decide +kernel) ⟨Nat.le_of_ble_eq_true rfl, Nat.le_of_ble_eq_true rfl⟩) rfl rfl (Nat.le_of_ble_eq_true rfl) dL_law_1286 (fun H locs w => ?_)
  refine lv_istore (lv' := [(5, .int r2), (0, .ref b), (1, .ref x), (2, .ref mm), (3, .ref o), (4, .int i)]) hx hb dL_law_1289 hl (by decide) rfl (fun ls hl => ?_)
  refine lv_aload_n hx hb dL_law_1291 rfl (lv_at hl 3 rfl) ?_
  refine lv_aload_n hx hb dL_law_1292 rfl (lv_at hl 1 rfl) ?_
  refine lv_iload hx hb dL_law_1293 (lv_at hl 5 rfl) ?_
  refine lv_iconst (v := (1 : Int32)) hx hb dL_law_1295 (by decide) ?_
  refine lv_iadd hx hb dL_law_1296 ?_
  refine va_sld hx hb hX.1 hX.2.1 hX.2.2 w.2.2 hi1 dL_law_1297 ?_
  refine r_topI hc1 ?_
  obtain ⟨M4, r5, y6, h⟩ := w_cl h
  refine r_callVi (As := [.int c1]) (rest := []) cx w ⟨by show _ ≤ 601024; omega, by show _ ≤ 7293034; omega⟩ hl.1 (k_X12_advise hG hL2 hK2 y6) (cwV 1 hts gL_law_X12_advise rfl rfl rfl (by decide +kernel) ⟨Nat.le_of_ble_eq_true rfl, Nat.le_of_ble_eq_true rfl⟩) hL2 hK2 (by decide) rfl rfl rfl (Nat.le_of_ble_eq_true rfl) dL_law_1298 (fun H locs w => ?_)
  refine lv_istore (lv' := [(6, .int r5), (5, .int r2), (0, .ref b), (1, .ref x), (2, .ref mm), (3, .ref o), (4, .int i)]) hx hb dL_law_1301 hl (by decide) rfl (fun ls hl => ?_)
  refine lv_aload_n hx hb dL_law_1303 rfl (lv_at hl 4 rfl) ?_
  obtain ⟨M7, r8, y9, h⟩ := w_cl h
  refine r_callVi (As := []) (rest := []) cx w ⟨by show _ ≤ 601024; omega, by show _ ≤ 7293034; omega⟩ hl.1 (k_X12_thrown hG hL2 hK2 y9) (cwV 0 hts gL_law_X12_thrown rfl rfl rfl (by decide +kernel) ⟨Nat.le_of_ble_eq_true rfl, Nat.le_of_ble_eq_true rfl⟩) hL2 hK2 (by decide) rfl rfl rfl (Nat.le_of_ble_eq_true rfl) dL_law_1304 (fun H locs w => ?_)
  refine lv_iload hx hb dL_law_1307 (lv_at hl 1 rfl) ?_
  refine lv_icmp_eq (tgt := 1314) hx hb dL_law_1309 (by decide) (fun k10 => ?_) (fun k10 => ?_)
  · have h := w_t h k10
    refine lv_iload hx hb dL_law_1314 (lv_at hl 1 rfl) ?_
    refine lv_if_ne (tgt := 1331) hx hb dL_law_1316 (by decide) (fun k11 => ?_) (fun k11 => ?_)
    · have h := w_f h k11
      refine lv_goto (tgt := 1389) hx hb dL_law_1331 (by decide) ?_
      refine W.widen (k := k0 + 20) (n := n0 + 6000) (by omega) (by omega) ?_
      exact hk _ _ _ _ _ h hext cx w (lv_sub hl [2, 3, 4, 5, 6] rfl)
    · have h := w_t h k11
      refine lv_aload_n hx hb dL_law_1319 rfl (lv_at hl 5 rfl) ?_
      refine lv_iconst (v := (0 : Int32)) hx hb dL_law_1320 (by decide) ?_
      obtain ⟨z12, h⟩ := w_ix h
      refine r_lald cx w hL3 hK3 z12 dL_law_1321 ?_
      refine lv_iload hx hb dL_law_1322 (lv_at hl 0 rfl) ?_
      refine lv_i2l (v := (Int32.toInt64 r5)) hx hb dL_law_1324 rfl ?_
      refine W.lcmp hx hb dL_law_1325 ?_
      refine lv_if_eq (tgt := 1331) hx hb dL_law_1326 (by decide) (fun k13 => ?_) (fun k13 => ?_)
      · have h := w_t h k13
        refine lv_goto (tgt := 1389) hx hb dL_law_1331 (by decide) ?_
        refine W.widen (k := k0 + 20) (n := n0 + 6000) (by omega) (by omega) ?_
        exact hk _ _ _ _ _ h hext cx w (lv_sub hl [2, 3, 4, 5, 6] rfl)
      · have h := w_f h k13
        refine lv_iconst (v := (0 : Int32)) hx hb dL_law_1329 (by decide) ?_
        exact h.elim
  · have h := w_f h k10
    refine lv_iconst (v := (0 : Int32)) hx hb dL_law_1312 (by decide) ?_
    exact h.elim
def fc_20 (G : gS) (M : mS) (x mm o : Nat) (post : gS → mS → Prop) : Prop := p_cl (m_X9_mean G M x) (fun M1 r2 => p_cl (m_X12_mean G M1 mm) (fun M4 r5 => (p_if ((Op.cmpValue (FP.dcmp r2 r5) .l) = 0) (post G M4) ((p_if ((Op.cmpValue (FP.dcmp r2 r2) .l) = 0) (False) ((p_if ((Op.cmpValue (FP.dcmp r5 r5) .l) = 0) (False) (post G M4))))))))
set_option maxHeartbeats 4000000 in
set_option maxRecDepth 100000 in
theorem lc_20 {p : Program} {e : Env} {s : State} {m : MethodId} {args : Array Value} {below : List Frame} {meth : Method} {c : Code} {A : Nat → Prop} {l : Launch} {D : va_G} {cy : cyS} {G : gS} {M : mS} {H : Heap} {locs : List Loc} {ls : Array Slot} {Q : State → Prop} {x mm o b L k0 n0 : Nat} {xs : Nat → Int32} {i  : Int32} {post : gS → mS → Prop} (hst : l.stackTraces = false) (cx : cX p s m args meth c cL_law RL 9 (some .boolean) wsL_law D cy G A) (w : wd D cy G M A s.heap H locs) (hl : lv_has ls 9 [(0, .ref b), (1, .ref x), (2, .ref mm), (3, .ref o), (4, .int i)]) (hX : va_X b L xs s s.heap ∧ b < s.heap.size ∧ ¬ A b) (hkk : k0 + 20 ≤ 601024 ∧ n0 + 6000 ≤ 7293034) (hL1 : x ∈ gL G) (hK1 : gK G x = 8) (hL2 : mm ∈ gL G) (hK2 : gK G mm = 11) (hL3 : o ∈ gL G) (hK3 : gK G o = 13)  (h : fc_20 G M x mm o  post) (hk : ∀ (G1 : gS) (M1 : mS) (H1 : Heap) (locs1 : List Loc) (ls1 : Array Slot), post G1 M1 → ext G G1 → cX p s m args meth c cL_law RL 9 (some .boolean) wsL_law D cy G1 A → wd D cy G1 M1 A s.heap H1 locs1 → lv_has ls1 9 [(0, .ref b), (1, .ref x), (2, .ref mm), (3, .ref o), (4, .int i)] → W p l e room_1 s m args below meth c H1 locs1 (k0 + 20) (n0 + 6000) Q (F0 m 1389 ls1 [])) : W p l e room_1 s m args below meth c H locs k0 n0 Q (F0 m 1334 ls []) := by
  obtain ⟨hx, hb, hml, hown, hts, hr, hlocks, hK, hA, hG, hsx⟩ := id cx
  obtain ⟨hkc, hks⟩ := hkk
  have hext := ext_rf (G := G)
  unfold fc_20 at h
  refine lv_aload_n hx hb dL_law_1334 rfl (lv_at hl 1 rfl) ?_
  obtain ⟨M1, r2, y3, h⟩ := w_cl h
  refine r_callVd (As := []) (rest := []) cx w ⟨by show _ ≤ 601024; omega, by show _ ≤ 7293034; omega⟩ hl.1 (k_X9_mean hG hL1 hK1 y3) (cwV 0 hts gL_law_X9_mean rfl rfl rfl (by decide +kernel) ⟨Nat.le_of_ble_eq_true rfl, Nat.le_of_ble_eq_true rfl⟩) hL1 hK1 (by decide) rfl rfl rfl (Nat.le_of_ble_eq_true rfl) dL_law_1335 (fun H locs w => ?_)
  refine lv_dstore (lv' := [(5, .double r2), (0, .ref b), (1, .ref x), (2, .ref mm), (3, .ref o), (4, .int i)]) hx hb dL_law_1338 hl (by decide) rfl (fun ls hl => ?_)
  refine lv_aload_n hx hb dL_law_1340 rfl (lv_at hl 3 rfl) ?_
  obtain ⟨M4, r5, y6, h⟩ := w_cl h
  refine r_callVd (As := []) (rest := []) cx w ⟨by show _ ≤ 601024; omega, by show _ ≤ 7293034; omega⟩ hl.1 (k_X12_mean hG hL2 hK2 y6) (cwV 0 hts gL_law_X12_mean rfl rfl rfl (by decide +kernel) ⟨Nat.le_of_ble_eq_true rfl, Nat.le_of_ble_eq_true rfl⟩) hL2 hK2 (by decide) rfl rfl rfl (Nat.le_of_ble_eq_true rfl) dL_law_1341 (fun H locs w => ?_)
  refine lv_dstore (lv' := [(7, .double r5), (5, .double r2), (0, .ref b), (1, .ref x), (2, .ref mm), (3, .ref o), (4, .int i)]) hx hb dL_law_1344 hl (by decide) rfl (fun ls hl => ?_)
  refine lv_dload hx hb dL_law_1346 (lv_at hl 1 rfl) ?_
  refine lv_dload hx hb dL_law_1348 (lv_at hl 0 rfl) ?_
  refine lv_dcmp hx hb dL_law_1350 ?_
  refine lv_if_eq (tgt := 1372) hx hb dL_law_1351 (by decide) (fun k7 => ?_) (fun k7 => ?_)
  · have h := w_t h k7
    refine lv_goto (tgt := 1389) hx hb dL_law_1372 (by decide) ?_
    refine W.widen (k := k0 + 20) (n := n0 + 6000) (by omega) (by omega) ?_
    exact hk _ _ _ _ _ h hext cx w (lv_sub hl [2, 3, 4, 5, 6] rfl)
  · have h := w_f h k7
    refine lv_dload hx hb dL_law_1354 (lv_at hl 1 rfl) ?_
    refine lv_dload hx hb dL_law_1356 (lv_at hl 1 rfl) ?_
    refine lv_dcmp hx hb dL_law_1358 ?_
    refine lv_if_eq (tgt := 1370) hx hb dL_law_1359 (by decide) (fun k8 => ?_) (fun k8 => ?_)
    · have h := w_t h k8
      refine lv_iconst (v := (0 : Int32)) hx hb dL_law_1370 (by decide) ?_
      exact h.elim
    · have h := w_f h k8
      refine lv_dload hx hb dL_law_1362 (lv_at hl 0 rfl) ?_
      refine lv_dload hx hb dL_law_1364 (lv_at hl 0 rfl) ?_
      refine lv_dcmp hx hb dL_law_1366 ?_
      refine lv_if_ne (tgt := 1372) hx hb dL_law_1367 (by decide) (fun k9 => ?_) (fun k9 => ?_)
      · have h := w_f h k9
        refine lv_goto (tgt := 1389) hx hb dL_law_1372 (by decide) ?_
        refine W.widen (k := k0 + 20) (n := n0 + 6000) (by omega) (by omega) ?_
        exact hk _ _ _ _ _ h hext cx w (lv_sub hl [2, 3, 4, 5, 6] rfl)
      · have h := w_t h k9
        refine lv_iconst (v := (0 : Int32)) hx hb dL_law_1370 (by decide) ?_
        exact h.elim
def fc_21 (G : gS) (M : mS) (x mm o : Nat) (post : gS → mS → Prop) : Prop := p_cl (m_X9_digest G M x) (fun M1 r2 => n_X12_digest G M1 mm (fun G M r4 => (p_if ((lg_cmp r2 r4) = 0) (post G M) (False))))
set_option maxHeartbeats 4000000 in
set_option maxRecDepth 100000 in
theorem lc_21 {p : Program} {e : Env} {s : State} {m : MethodId} {args : Array Value} {below : List Frame} {meth : Method} {c : Code} {A : Nat → Prop} {l : Launch} {D : va_G} {cy : cyS} {G : gS} {M : mS} {H : Heap} {locs : List Loc} {ls : Array Slot} {Q : State → Prop} {x mm o b L k0 n0 : Nat} {xs : Nat → Int32} {i  : Int32} {post : gS → mS → Prop} (hst : l.stackTraces = false) (cx : cX p s m args meth c cL_law RL 9 (some .boolean) wsL_law D cy G A) (w : wd D cy G M A s.heap H locs) (hl : lv_has ls 9 [(0, .ref b), (1, .ref x), (2, .ref mm), (3, .ref o), (4, .int i)]) (hX : va_X b L xs s s.heap ∧ b < s.heap.size ∧ ¬ A b) (hkk : k0 + 20 ≤ 601024 ∧ n0 + 6000 ≤ 7293034) (hL1 : x ∈ gL G) (hK1 : gK G x = 8) (hL2 : mm ∈ gL G) (hK2 : gK G mm = 11) (hL3 : o ∈ gL G) (hK3 : gK G o = 13)  (h : fc_21 G M x mm o  post) (hk : ∀ (G1 : gS) (M1 : mS) (H1 : Heap) (locs1 : List Loc) (ls1 : Array Slot), post G1 M1 → ext G G1 → cX p s m args meth c cL_law RL 9 (some .boolean) wsL_law D cy G1 A → wd D cy G1 M1 A s.heap H1 locs1 → lv_has ls1 9 [(0, .ref b), (1, .ref x), (2, .ref mm), (3, .ref o), (4, .int i)] → W p l e room_1 s m args below meth c H1 locs1 (k0 + 20) (n0 + 6000) Q (F0 m 1389 ls1 [])) : W p l e room_1 s m args below meth c H locs k0 n0 Q (F0 m 1375 ls []) := by
  obtain ⟨hx, hb, hml, hown, hts, hr, hlocks, hK, hA, hG, hsx⟩ := id cx
  obtain ⟨hkc, hks⟩ := hkk
  have hext := ext_rf (G := G)
  unfold fc_21 at h
  refine lv_aload_n hx hb dL_law_1375 rfl (lv_at hl 1 rfl) ?_
  obtain ⟨M1, r2, y3, h⟩ := w_cl h
  refine r_callVl (As := []) (rest := []) cx w ⟨by show _ ≤ 601024; omega, by show _ ≤ 7293034; omega⟩ hl.1 (k_X9_digest hG hL1 hK1 y3) (cwV 0 hts gL_law_X9_digest rfl rfl rfl (by decide +kernel) ⟨Nat.le_of_ble_eq_true rfl, Nat.le_of_ble_eq_true rfl⟩) hL1 hK1 (by decide) rfl rfl rfl (Nat.le_of_ble_eq_true rfl) dL_law_1376 (fun H locs w => ?_)
  refine lv_aload_n hx hb dL_law_1379 rfl (lv_at hl 2 rfl) ?_
  refine r_callNVL (As := []) (rest := [.long r2]) cx w ⟨by show _ ≤ 601024; omega, by show _ ≤ 7293034; omega⟩ hl.1 (kn_X12_digest hG hL2 hK2 h) (cwV 0 hts gL_law_X12_digest rfl rfl rfl (by decide +kernel) ⟨Nat.le_of_ble_eq_true rfl, Nat.le_of_ble_eq_true rfl⟩) hL2 hK2 (by decide) rfl rfl rfl (Nat.le_of_ble_eq_true rfl) dL_law_1380 (fun G1 M1 r4 H locs h xe cx w => ?_)
  have hK1 := ext_K xe hL1 hK1
  have hL1 := ext_L xe hL1
  have hK2 := ext_K xe hL2 hK2
  have hL2 := ext_L xe hL2
  have hK3 := ext_K xe hL3 hK3
  have hL3 := ext_L xe hL3
  have hext := ext_tr hext xe
  have hG := cX_wt cx
  clear xe
  obtain ⟨G, eG⟩ : ∃ z, z = G1 := ⟨_, rfl⟩
  obtain ⟨M, eM⟩ : ∃ z, z = M1 := ⟨_, rfl⟩
  subst eG
  subst eM
  refine W.lcmp hx hb dL_law_1383 ?_
  refine lv_if_eq (tgt := 1389) hx hb dL_law_1384 (by decide) (fun k5 => ?_) (fun k5 => ?_)
  · have h := w_t h k5
    refine W.widen (k := k0 + 20) (n := n0 + 6000) (by omega) (by omega) ?_
    exact hk _ _ _ _ _ h hext cx w (lv_sub hl [0, 1, 2, 3, 4] rfl)
  · have h := w_f h k5
    refine lv_iconst (v := (0 : Int32)) hx hb dL_law_1387 (by decide) ?_
    exact h.elim
