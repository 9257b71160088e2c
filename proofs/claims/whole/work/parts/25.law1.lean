def fc_0 (G : gS) (M : mS) (x mm o : Nat) (c1 c2 c3 c4 c5 : Int32) (post : gS → mS → Prop) : Prop := p_cl (m_L_feed G M x c1 c2 c3 c4 c5 o) (fun M1 r2 => n_X12_feed G M1 mm c1 c2 c3 c4 c5 (fun G M r4 => p_cl (m_X12_thrown G M mm) (fun M5 r6 => (p_if (r6 = r2) ((p_if (r2 = 0) (p_ix (0 : Int32) (gN G o) ((p_if ((lg_cmp (mJ M5 o (Int32.toNatClampNeg (0 : Int32))) (Int32.toInt64 r4)) = 0) (post G M5) (False)))) (post G M5))) (False)))))
set_option maxHeartbeats 4000000 in
set_option maxRecDepth 100000 in
theorem lc_0 {p : Program} {e : Env} {s : State} {m : MethodId} {args : Array Value} {below : List Frame} {meth : Method} {c : Code} {A : Nat → Prop} {l : Launch} {D : va_G} {cy : cyS} {G : gS} {M : mS} {H : Heap} {locs : List Loc} {ls : Array Slot} {Q : State → Prop} {x mm o b L k0 n0 : Nat} {xs : Nat → Int32} {i c1 c2 c3 c4 c5 : Int32} {post : gS → mS → Prop} (hst : l.stackTraces = false) (cx : cX p s m args meth c cL_law RL 9 (some .boolean) wsL_law D cy G A) (w : wd D cy G M A s.heap H locs) (hl : lv_has ls 9 [(0, .ref b), (1, .ref x), (2, .ref mm), (3, .ref o), (4, .int i)]) (hX : va_X b L xs s s.heap ∧ b < s.heap.size ∧ ¬ A b) (hkk : k0 + 20 ≤ 601024 ∧ n0 + 6000 ≤ 7293034) (hL1 : x ∈ gL G) (hK1 : gK G x = 8) (hL2 : mm ∈ gL G) (hK2 : gK G mm = 11) (hL3 : o ∈ gL G) (hK3 : gK G o = 13) (hi1 : vp_in (i + (1 : Int32)) L) (hc1 : c1 = xs (Int32.toNatClampNeg (i + (1 : Int32)))) (hi2 : vp_in (i + (2 : Int32)) L) (hc2 : c2 = xs (Int32.toNatClampNeg (i + (2 : Int32)))) (hi3 : vp_in (i + (3 : Int32)) L) (hc3 : c3 = xs (Int32.toNatClampNeg (i + (3 : Int32)))) (hi4 : vp_in (i + (4 : Int32)) L) (hc4 : c4 = xs (Int32.toNatClampNeg (i + (4 : Int32)))) (hi5 : vp_in (i + (5 : Int32)) L) (hc5 : c5 = xs (Int32.toNatClampNeg (i + (5 : Int32)))) (h : fc_0 G M x mm o c1 c2 c3 c4 c5 post) (hk : ∀ (G1 : gS) (M1 : mS) (H1 : Heap) (locs1 : List Loc) (ls1 : Array Slot), post G1 M1 → ext G G1 → cX p s m args meth c cL_law RL 9 (some .boolean) wsL_law D cy G1 A → wd D cy G1 M1 A s.heap H1 locs1 → lv_has ls1 9 [(0, .ref b), (1, .ref x), (2, .ref mm), (3, .ref o), (4, .int i)] → W p l e room_1 s m args below meth c H1 locs1 (k0 + 20) (n0 + 6000) Q (F0 m 1389 ls1 [])) : W p l e room_1 s m args below meth c H locs k0 n0 Q (F0 m 144 ls []) := by
  obtain ⟨hx, hb, hml, hown, hts, hr, hlocks, hK, hA, hG, hsx⟩ := id cx
  obtain ⟨hkc, hks⟩ := hkk
  have hext := ext_rf (G := G)
  unfold fc_0 at h
  refine lv_aload_n hx hb dL_law_144 rfl (lv_at hl 1 rfl) ?_
  refine lv_aload_n hx hb dL_law_145 rfl (lv_at hl 0 rfl) ?_
  refine lv_iload hx hb dL_law_146 (lv_at hl 4 rfl) ?_
  refine lv_iconst (v := (1 : Int32)) hx hb dL_law_148 (by decide) ?_
  refine lv_iadd hx hb dL_law_149 ?_
  refine va_sld hx hb hX.1 hX.2.1 hX.2.2 w.2.2 hi1 dL_law_150 ?_
  refine r_topI hc1 ?_
  refine lv_aload_n hx hb dL_law_151 rfl (lv_at hl 0 rfl) ?_
  refine lv_iload hx hb dL_law_152 (lv_at hl 4 rfl) ?_
  refine lv_iconst (v := (2 : Int32)) hx hb dL_law_154 (by decide) ?_
  refine lv_iadd hx hb dL_law_155 ?_
  refine va_sld hx hb hX.1 hX.2.1 hX.2.2 w.2.2 hi2 dL_law_156 ?_
  refine r_topI hc2 ?_
  refine lv_aload_n hx hb dL_law_157 rfl (lv_at hl 0 rfl) ?_
  refine lv_iload hx hb dL_law_158 (lv_at hl 4 rfl) ?_
  refine lv_iconst (v := (3 : Int32)) hx hb dL_law_160 (by decide) ?_
  refine lv_iadd hx hb dL_law_161 ?_
  refine va_sld hx hb hX.1 hX.2.1 hX.2.2 w.2.2 hi3 dL_law_162 ?_
  refine r_topI hc3 ?_
  refine lv_aload_n hx hb dL_law_163 rfl (lv_at hl 0 rfl) ?_
  refine lv_iload hx hb dL_law_164 (lv_at hl 4 rfl) ?_
  refine lv_iconst (v := (4 : Int32)) hx hb dL_law_166 (by decide) ?_
  refine lv_iadd hx hb dL_law_167 ?_
  refine va_sld hx hb hX.1 hX.2.1 hX.2.2 w.2.2 hi4 dL_law_168 ?_
  refine r_topI hc4 ?_
  refine lv_aload_n hx hb dL_law_169 rfl (lv_at hl 0 rfl) ?_
  refine lv_iload hx hb dL_law_170 (lv_at hl 4 rfl) ?_
  refine lv_iconst (v := (5 : Int32)) hx hb dL_law_172 (by decide) ?_
  refine lv_iadd hx hb dL_law_173 ?_
  refine va_sld hx hb hX.1 hX.2.1 hX.2.2 w.2.2 hi5 dL_law_174 ?_
  refine r_topI hc5 ?_
  refine lv_aload_n hx hb dL_law_175 rfl (lv_at hl 3 rfl) ?_
  obtain ⟨M1, r2, y3, h⟩ := w_cl h
  refine r_callSW (As := [.ref x, .int c1, .int c2, .int c3, .int c4, .int c5, .ref o]) (rest := []) cx w ⟨by show _ ≤ 601024; omega, by show _ ≤ 7293034; omega⟩ hl.1 (k_L_feed hG hst hL1 hK1 hL3 hK3 y3) (vx_cwSW 7 hts gL_law_L_feed rfl rfl rfl (by decide +kernel) ⟨Nat.le_of_ble_eq_true rfl, Nat.le_of_ble_eq_true rfl⟩) rfl rfl (Nat.le_of_ble_eq_true rfl) dL_law_176 (fun H locs w => ?_)
  refine lv_istore (lv' := [(5, .int r2), (0, .ref b), (1, .ref x), (2, .ref mm), (3, .ref o), (4, .int i)]) hx hb dL_law_179 hl (by decide) rfl (fun ls hl => ?_)
  refine lv_aload_n hx hb dL_law_181 rfl (lv_at hl 3 rfl) ?_
  refine lv_aload_n hx hb dL_law_182 rfl (lv_at hl 1 rfl) ?_
  refine lv_iload hx hb dL_law_183 (lv_at hl 5 rfl) ?_
  refine lv_iconst (v := (1 : Int32)) hx hb dL_law_185 (by decide) ?_
  refine lv_iadd hx hb dL_law_186 ?_
  refine va_sld hx hb hX.1 hX.2.1 hX.2.2 w.2.2 hi1 dL_law_187 ?_
  refine r_topI hc1 ?_
  refine lv_aload_n hx hb dL_law_188 rfl (lv_at hl 1 rfl) ?_
  refine lv_iload hx hb dL_law_189 (lv_at hl 5 rfl) ?_
  refine lv_iconst (v := (2 : Int32)) hx hb dL_law_191 (by decide) ?_
  refine lv_iadd hx hb dL_law_192 ?_
  refine va_sld hx hb hX.1 hX.2.1 hX.2.2 w.2.2 hi2 dL_law_193 ?_
  refine r_topI hc2 ?_
  refine lv_aload_n hx hb dL_law_194 rfl (lv_at hl 1 rfl) ?_
  refine lv_iload hx hb dL_law_195 (lv_at hl 5 rfl) ?_
  refine lv_iconst (v := (3 : Int32)) hx hb dL_law_197 (by decide) ?_
  refine lv_iadd hx hb dL_law_198 ?_
  refine va_sld hx hb hX.1 hX.2.1 hX.2.2 w.2.2 hi3 dL_law_199 ?_
  refine r_topI hc3 ?_
  refine lv_aload_n hx hb dL_law_200 rfl (lv_at hl 1 rfl) ?_
  refine lv_iload hx hb dL_law_201 (lv_at hl 5 rfl) ?_
  refine lv_iconst (v := (4 : Int32)) hx hb dL_law_203 (by decide) ?_
  refine lv_iadd hx hb dL_law_204 ?_
  refine va_sld hx hb hX.1 hX.2.1 hX.2.2 w.2.2 hi4 dL_law_205 ?_
  refine r_topI hc4 ?_
  refine lv_aload_n hx hb dL_law_206 rfl (lv_at hl 1 rfl) ?_
  refine lv_iload hx hb dL_law_207 (lv_at hl 5 rfl) ?_
  refine lv_iconst (v := (5 : Int32)) hx hb dL_law_209 (by decide) ?_
  refine lv_iadd hx hb dL_law_210 ?_
  refine va_sld hx hb hX.1 hX.2.1 hX.2.2 w.2.2 hi5 dL_law_211 ?_
  refine r_topI hc5 ?_
  refine r_callNVI (As := [.int c1, .int c2, .int c3, .int c4, .int c5]) (rest := []) cx w ⟨by show _ ≤ 601024; omega, by show _ ≤ 7293034; omega⟩ hl.1 (kn_X12_feed hG hL2 hK2 h) (cwV 5 hts gL_law_X12_feed rfl rfl rfl (by decide +kernel) ⟨Nat.le_of_ble_eq_true rfl, Nat.le_of_ble_eq_true rfl⟩) hL2 hK2 (by decide) rfl rfl rfl (Nat.le_of_ble_eq_true rfl) dL_law_212 (fun G1 M1 r4 H locs h xe cx w => ?_)
  have hK1 := ext_K xe hL1 hK1
  have hL1 := ext_L xe hL1
  have hK2 := ext_K xe hL2 hK2
  have hL2 := ext_L xe hL2
  have hK3 := ext_K xe hL3 hK3
  have hL3 := ext_L xe hL3
  have hext := ext_tr hext xe
  have hG := cX_wt cx
  clear xe
  obtain ⟨G, eG⟩ : ∃ z, z = G1 := ⟨_, rfl⟩
  obtain ⟨M, eM⟩ : ∃ z, z = M1 := ⟨_, rfl⟩
  subst eG
  subst eM
  refine lv_istore (lv' := [(6, .int r4), (5, .int r2), (0, .ref b), (1, .ref x), (2, .ref mm), (3, .ref o), (4, .int i)]) hx hb dL_law_215 hl (by decide) rfl (fun ls hl => ?_)
  refine lv_aload_n hx hb dL_law_217 rfl (lv_at hl 4 rfl) ?_
  obtain ⟨M5, r6, y7, h⟩ := w_cl h
  refine r_callVi (As := []) (rest := []) cx w ⟨by show _ ≤ 601024; omega, by show _ ≤ 7293034; omega⟩ hl.1 (k_X12_thrown hG hL2 hK2 y7) (cwV 0 hts gL_law_X12_thrown rfl rfl rfl (by decide +kernel) ⟨Nat.le_of_ble_eq_true rfl, Nat.le_of_ble_eq_true rfl⟩) hL2 hK2 (by decide) rfl rfl rfl (Nat.le_of_ble_eq_true rfl) dL_law_218 (fun H locs w => ?_)
  refine lv_iload hx hb dL_law_221 (lv_at hl 1 rfl) ?_
  refine lv_icmp_eq (tgt := 228) hx hb dL_law_223 (by decide) (fun k8 => ?_) (fun k8 => ?_)
  · have h := w_t h k8
    refine lv_iload hx hb dL_law_228 (lv_at hl 1 rfl) ?_
    refine lv_if_ne (tgt := 245) hx hb dL_law_230 (by decide) (fun k9 => ?_) (fun k9 => ?_)
    · have h := w_f h k9
      refine lv_goto (tgt := 1389) hx hb dL_law_245 (by decide) ?_
      refine W.widen (k := k0 + 20) (n := n0 + 6000) (by omega) (by omega) ?_
      exact hk _ _ _ _ _ h hext cx w (lv_sub hl [2, 3, 4, 5, 6] rfl)
    · have h := w_t h k9
      refine lv_aload_n hx hb dL_law_233 rfl (lv_at hl 5 rfl) ?_
      refine lv_iconst (v := (0 : Int32)) hx hb dL_law_234 (by decide) ?_
      obtain ⟨z10, h⟩ := w_ix h
      refine r_lald cx w hL3 hK3 z10 dL_law_235 ?_
      refine lv_iload hx hb dL_law_236 (lv_at hl 0 rfl) ?_
      refine lv_i2l (v := (Int32.toInt64 r4)) hx hb dL_law_238 rfl ?_
      refine W.lcmp hx hb dL_law_239 ?_
      refine lv_if_eq (tgt := 245) hx hb dL_law_240 (by decide) (fun k11 => ?_) (fun k11 => ?_)
      · have h := w_t h k11
        refine lv_goto (tgt := 1389) hx hb dL_law_245 (by decide) ?_
        refine W.widen (k := k0 + 20) (n := n0 + 6000) (by omega) (by omega) ?_
        exact hk _ _ _ _ _ h hext cx w (lv_sub hl [2, 3, 4, 5, 6] rfl)
      · have h := w_f h k11
        refine lv_iconst (v := (0 : Int32)) hx hb dL_law_243 (by decide) ?_
        exact h.elim
  · have h := w_f h k8
    refine lv_iconst (v := (0 : Int32)) hx hb dL_law_226 (by decide) ?_
    exact h.elim
def fc_1 (G : gS) (M : mS) (x mm o : Nat) (c1 : Int32) (post : gS → mS → Prop) : Prop := p_cl (m_L_trim G M x c1 o) (fun M1 r2 => p_cl (m_X12_trim G M1 mm c1) (fun M4 r5 => p_cl (m_X12_thrown G M4 mm) (fun M7 r8 => (p_if (r8 = r2) ((p_if (r2 = 0) (p_ix (0 : Int32) (gN G o) ((p_if ((lg_cmp (mJ M7 o (Int32.toNatClampNeg (0 : Int32))) (Int32.toInt64 r5)) = 0) (post G M7) (False)))) (post G M7))) (False)))))
set_option maxHeartbeats 4000000 in
set_option maxRecDepth 100000 in
theorem lc_1 {p : Program} {e : Env} {s : State} {m : MethodId} {args : Array Value} {below : List Frame} {meth : Method} {c : Code} {A : Nat → Prop} {l : Launch} {D : va_G} {cy : cyS} {G : gS} {M : mS} {H : Heap} {locs : List Loc} {ls : Array Slot} {Q : State → Prop} {x mm o b L k0 n0 : Nat} {xs : Nat → Int32} {i c1 : Int32} {post : gS → mS → Prop} (hst : l.stackTraces = false) (cx : cX p s m args meth c cL_law RL 9 (some .boolean) wsL_law D cy G A) (w : wd D cy G M A s.heap H locs) (hl : lv_has ls 9 [(0, .ref b), (1, .ref x), (2, .ref mm), (3, .ref o), (4, .int i)]) (hX : va_X b L xs s s.heap ∧ b < s.heap.size ∧ ¬ A b) (hkk : k0 + 20 ≤ 601024 ∧ n0 + 6000 ≤ 7293034) (hL1 : x ∈ gL G) (hK1 : gK G x = 8) (hL2 : mm ∈ gL G) (hK2 : gK G mm = 11) (hL3 : o ∈ gL G) (hK3 : gK G o = 13) (hi1 : vp_in (i + (1 : Int32)) L) (hc1 : c1 = xs (Int32.toNatClampNeg (i + (1 : Int32)))) (h : fc_1 G M x mm o c1 post) (hk : ∀ (G1 : gS) (M1 : mS) (H1 : Heap) (locs1 : List Loc) (ls1 : Array Slot), post G1 M1 → ext G G1 → cX p s m args meth c cL_law RL 9 (some .boolean) wsL_law D cy G1 A → wd D cy G1 M1 A s.heap H1 locs1 → lv_has ls1 9 [(0, .ref b), (1, .ref x), (2, .ref mm), (3, .ref o), (4, .int i)] → W p l e room_1 s m args below meth c H1 locs1 (k0 + 20) (n0 + 6000) Q (F0 m 1389 ls1 [])) : W p l e room_1 s m args below meth c H locs k0 n0 Q (F0 m 248 ls []) := by
  obtain ⟨hx, hb, hml, hown, hts, hr, hlocks, hK, hA, hG, hsx⟩ := id cx
  obtain ⟨hkc, hks⟩ := hkk
  have hext := ext_rf (G := G)
  unfold fc_1 at h
  refine lv_aload_n hx hb dL_law_248 rfl (lv_at hl 1 rfl) ?_
  refine lv_aload_n hx hb dL_law_249 rfl (lv_at hl 0 rfl) ?_
  refine lv_iload hx hb dL_law_250 (lv_at hl 4 rfl) ?_
  refine lv_iconst (v := (1 : Int32)) hx hb dL_law_252 (by decide) ?_
  refine lv_iadd hx hb dL_law_253 ?_
  refine va_sld hx hb hX.1 hX.2.1 hX.2.2 w.2.2 hi1 dL_law_254 ?_
  refine r_topI hc1 ?_
  refine lv_aload_n hx hb dL_law_255 rfl (lv_at hl 3 rfl) ?_
  obtain ⟨M1, r2, y3, h⟩ := w_cl h
  refine r_callSW (As := [.ref x, .int c1, .ref o]) (rest := []) cx w ⟨by show _ ≤ 601024; omega, by show _ ≤ 7293034; omega⟩ hl.1 (k_L_trim hG hst hL1 hK1 hL3 hK3 y3) (vx_cwSW 3 hts gL_law_L_trim rfl rfl rfl (by decide +kernel) ⟨Nat.le_of_ble_eq_true rfl, Nat.le_of_ble_eq_true rfl⟩) rfl rfl (Nat.le_of_ble_eq_true rfl) dL_law_256 (fun H locs w => ?_)
  refine lv_istore (lv' := [(5, .int r2), (0, .ref b), (1, .ref x), (2, .ref mm), (3, .ref o), (4, .int i)]) hx hb dL_law_259 hl (by decide) rfl (fun ls hl => ?_)
  refine lv_aload_n hx hb dL_law_261 rfl (lv_at hl 3 rfl) ?_
  refine lv_aload_n hx hb dL_law_262 rfl (lv_at hl 1 rfl) ?_
  refine lv_iload hx hb dL_law_263 (lv_at hl 5 rfl) ?_
  refine lv_iconst (v := (1 : Int32)) hx hb dL_law_265 (by decide) ?_
  refine lv_iadd hx hb dL_law_266 ?_
  refine va_sld hx hb hX.1 hX.2.1 hX.2.2 w.2.2 hi1 dL_law_267 ?_
  refine r_topI hc1 ?_
  obtain ⟨M4, r5, y6, h⟩ := w_cl h
  refine r_callVi (As := [.int c1]) (rest := []) cx w ⟨by show _ ≤ 601024; omega, by show _ ≤ 7293034; omega⟩ hl.1 (k_X12_trim hG hL2 hK2 y6) (cwV 1 hts gL_law_X12_trim rfl rfl rfl (by decide +kernel) ⟨Nat.le_of_ble_eq_true rfl, Nat.le_of_ble_eq_true rfl⟩) hL2 hK2 (by decide) rfl rfl rfl (Nat.le_of_ble_eq_true rfl) dL_law_268 (fun H locs w => ?_)
  refine lv_istore (lv' := [(6, .int r5), (5, .int r2), (0, .ref b), (1, .ref x), (2, .ref mm), (3, .ref o), (4, .int i)]) hx hb dL_law_271 hl (by decide) rfl (fun ls hl => ?_)
  refine lv_aload_n hx hb dL_law_273 rfl (lv_at hl 4 rfl) ?_
  obtain ⟨M7, r8, y9, h⟩ := w_cl h
  refine r_callVi (As := []) (rest := []) cx w ⟨by show _ ≤ 601024; omega, by show _ ≤ 7293034; omega⟩ hl.1 (k_X12_thrown hG hL2 hK2 y9) (cwV 0 hts gL_law_X12_thrown rfl rfl rfl (by decide +kernel) ⟨Nat.le_of_ble_eq_true rfl, Nat.le_of_ble_eq_true rfl⟩) hL2 hK2 (by decide) rfl rfl rfl (Nat.le_of_ble_eq_true rfl) dL_law_274 (fun H locs w => ?_)
  refine lv_iload hx hb dL_law_277 (lv_at hl 1 rfl) ?_
  refine lv_icmp_eq (tgt := 284) hx hb dL_law_279 (by decide) (fun k10 => ?_) (fun k10 => ?_)
  · have h := w_t h k10
    refine lv_iload hx hb dL_law_284 (lv_at hl 1 rfl) ?_
    refine lv_if_ne (tgt := 301) hx hb dL_law_286 (by decide) (fun k11 => ?_) (fun k11 => ?_)
    · have h := w_f h k11
      refine lv_goto (tgt := 1389) hx hb dL_law_301 (by decide) ?_
      refine W.widen (k := k0 + 20) (n := n0 + 6000) (by omega) (by omega) ?_
      exact hk _ _ _ _ _ h hext cx w (lv_sub hl [2, 3, 4, 5, 6] rfl)
    · have h := w_t h k11
      refine lv_aload_n hx hb dL_law_289 rfl (lv_at hl 5 rfl) ?_
      refine lv_iconst (v := (0 : Int32)) hx hb dL_law_290 (by decide) ?_
      obtain ⟨z12, h⟩ := w_ix h
      refine r_lald cx w hL3 hK3 z12 dL_law_291 ?_
      refine lv_iload hx hb dL_law_292 (lv_at hl 0 rfl) ?_
      refine lv_i2l (v := (Int32.toInt64 r5)) hx hb dL_law_294 rfl ?_
      refine W.lcmp hx hb dL_law_295 ?_
      refine lv_if_eq (tgt := 301) hx hb dL_law_296 (by decide) (fun k13 => ?_) (fun k13 => ?_)
      · have h := w_t h k13
        refine lv_goto (tgt := 1389) hx hb dL_law_301 (by decide) ?_
        refine W.widen (k := k0 + 20) (n := n0 + 6000) (by omega) (by omega) ?_
        exact hk _ _ _ _ _ h hext cx w (lv_sub hl [2, 3, 4, 5, 6] rfl)
      · have h := w_f h k13
        refine lv_iconst (v := (0 : Int32)) hx hb dL_law_299 (by decide) ?_
        exact h.elim
  · have h := w_f h k10
    refine lv_iconst (v := (0 : Int32)) hx hb dL_law_282 (by decide) ?_
    exact h.elim
def fc_2 (G : gS) (M : mS) (x mm o : Nat) (post : gS → mS → Prop) : Prop := p_cl (m_X9_teach G M x) (fun M1 r2 => n_X12_teach G M1 mm (fun G M r4 => (p_if (r2 = r4) (post G M) (False))))
set_option maxHeartbeats 4000000 in
set_option maxRecDepth 100000 in
theorem lc_2 {p : Program} {e : Env} {s : State} {m : MethodId} {args : Array Value} {below : List Frame} {meth : Method} {c : Code} {A : Nat → Prop} {l : Launch} {D : va_G} {cy : cyS} {G : gS} {M : mS} {H : Heap} {locs : List Loc} {ls : Array Slot} {Q : State → Prop} {x mm o b L k0 n0 : Nat} {xs : Nat → Int32} {i  : Int32} {post : gS → mS → Prop} (hst : l.stackTraces = false) (cx : cX p s m args meth c cL_law RL 9 (some .boolean) wsL_law D cy G A) (w : wd D cy G M A s.heap H locs) (hl : lv_has ls 9 [(0, .ref b), (1, .ref x), (2, .ref mm), (3, .ref o), (4, .int i)]) (hX : va_X b L xs s s.heap ∧ b < s.heap.size ∧ ¬ A b) (hkk : k0 + 20 ≤ 601024 ∧ n0 + 6000 ≤ 7293034) (hL1 : x ∈ gL G) (hK1 : gK G x = 8) (hL2 : mm ∈ gL G) (hK2 : gK G mm = 11) (hL3 : o ∈ gL G) (hK3 : gK G o = 13)  (h : fc_2 G M x mm o  post) (hk : ∀ (G1 : gS) (M1 : mS) (H1 : Heap) (locs1 : List Loc) (ls1 : Array Slot), post G1 M1 → ext G G1 → cX p s m args meth c cL_law RL 9 (some .boolean) wsL_law D cy G1 A → wd D cy G1 M1 A s.heap H1 locs1 → lv_has ls1 9 [(0, .ref b), (1, .ref x), (2, .ref mm), (3, .ref o), (4, .int i)] → W p l e room_1 s m args below meth c H1 locs1 (k0 + 20) (n0 + 6000) Q (F0 m 1389 ls1 [])) : W p l e room_1 s m args below meth c H locs k0 n0 Q (F0 m 304 ls []) := by
  obtain ⟨hx, hb, hml, hown, hts, hr, hlocks, hK, hA, hG, hsx⟩ := id cx
  obtain ⟨hkc, hks⟩ := hkk
  have hext := ext_rf (G := G)
  unfold fc_2 at h
  refine lv_aload_n hx hb dL_law_304 rfl (lv_at hl 1 rfl) ?_
  obtain ⟨M1, r2, y3, h⟩ := w_cl h
  refine r_callVi (As := []) (rest := []) cx w ⟨by show _ ≤ 601024; omega, by show _ ≤ 7293034; omega⟩ hl.1 (k_X9_teach hG hL1 hK1 y3) (cwV 0 hts gL_law_X9_teach rfl rfl rfl (by decide +kernel) ⟨Nat.le_of_ble_eq_true rfl, Nat.le_of_ble_eq_true rfl⟩) hL1 hK1 (by decide) rfl rfl rfl (Nat.le_of_ble_eq_true rfl) dL_law_305 (fun H locs w => ?_)
  refine lv_aload_n hx hb dL_law_308 rfl (lv_at hl 2 rfl) ?_
  refine r_callNVI (As := []) (rest := [.int r2]) cx w ⟨by show _ ≤ 601024; omega, by show _ ≤ 7293034; omega⟩ hl.1 (kn_X12_teach hG hL2 hK2 h) (cwV 0 hts gL_law_X12_teach rfl rfl rfl (by decide +kernel) ⟨Nat.le_of_ble_eq_true rfl, Nat.le_of_ble_eq_true rfl⟩) hL2 hK2 (by decide) rfl rfl rfl (Nat.le_of_ble_eq_true rfl) dL_law_309 (fun G1 M1 r4 H locs h xe cx w => ?_)
  have hK1 := ext_K xe hL1 hK1
  have hL1 := ext_L xe hL1
  have hK2 := ext_K xe hL2 hK2
  have hL2 := ext_L xe hL2
  have hK3 := ext_K xe hL3 hK3
  have hL3 := ext_L xe hL3
  have hext := ext_tr hext xe
  have hG := cX_wt cx
  clear xe
  obtain ⟨G, eG⟩ : ∃ z, z = G1 := ⟨_, rfl⟩
  obtain ⟨M, eM⟩ : ∃ z, z = M1 := ⟨_, rfl⟩
  subst eG
  subst eM
  refine lv_icmp_eq (tgt := 1389) hx hb dL_law_312 (by decide) (fun k5 => ?_) (fun k5 => ?_)
  · have h := w_t h k5
    refine W.widen (k := k0 + 20) (n := n0 + 6000) (by omega) (by omega) ?_
    exact hk _ _ _ _ _ h hext cx w (lv_sub hl [0, 1, 2, 3, 4] rfl)
  · have h := w_f h k5
    refine lv_iconst (v := (0 : Int32)) hx hb dL_law_315 (by decide) ?_
    exact h.elim
def fc_3 (G : gS) (M : mS) (x mm o : Nat) (post : gS → mS → Prop) : Prop := p_cl (m_X9_errorAt G M x) (fun M1 r2 => p_cl (m_X12_errorAt G M1 mm) (fun M4 r5 => (p_if (r2 = r5) (post G M4) (False))))
set_option maxHeartbeats 4000000 in
set_option maxRecDepth 100000 in
theorem lc_3 {p : Program} {e : Env} {s : State} {m : MethodId} {args : Array Value} {below : List Frame} {meth : Method} {c : Code} {A : Nat → Prop} {l : Launch} {D : va_G} {cy : cyS} {G : gS} {M : mS} {H : Heap} {locs : List Loc} {ls : Array Slot} {Q : State → Prop} {x mm o b L k0 n0 : Nat} {xs : Nat → Int32} {i  : Int32} {post : gS → mS → Prop} (hst : l.stackTraces = false) (cx : cX p s m args meth c cL_law RL 9 (some .boolean) wsL_law D cy G A) (w : wd D cy G M A s.heap H locs) (hl : lv_has ls 9 [(0, .ref b), (1, .ref x), (2, .ref mm), (3, .ref o), (4, .int i)]) (hX : va_X b L xs s s.heap ∧ b < s.heap.size ∧ ¬ A b) (hkk : k0 + 20 ≤ 601024 ∧ n0 + 6000 ≤ 7293034) (hL1 : x ∈ gL G) (hK1 : gK G x = 8) (hL2 : mm ∈ gL G) (hK2 : gK G mm = 11) (hL3 : o ∈ gL G) (hK3 : gK G o = 13)  (h : fc_3 G M x mm o  post) (hk : ∀ (G1 : gS) (M1 : mS) (H1 : Heap) (locs1 : List Loc) (ls1 : Array Slot), post G1 M1 → ext G G1 → cX p s m args meth c cL_law RL 9 (some .boolean) wsL_law D cy G1 A → wd D cy G1 M1 A s.heap H1 locs1 → lv_has ls1 9 [(0, .ref b), (1, .ref x), (2, .ref mm), (3, .ref o), (4, .int i)] → W p l e room_1 s m args below meth c H1 locs1 (k0 + 20) (n0 + 6000) Q (F0 m 1389 ls1 [])) : W p l e room_1 s m args below meth c H locs k0 n0 Q (F0 m 317 ls []) := by
  obtain ⟨hx, hb, hml, hown, hts, hr, hlocks, hK, hA, hG, hsx⟩ := id cx
  obtain ⟨hkc, hks⟩ := hkk
  have hext := ext_rf (G := G)
  unfold fc_3 at h
  refine lv_aload_n hx hb dL_law_317 rfl (lv_at hl 1 rfl) ?_
  obtain ⟨M1, r2, y3, h⟩ := w_cl h
  refine r_callVi (As := []) (rest := []) cx w ⟨by show _ ≤ 601024; omega, by show _ ≤ 7293034; omega⟩ hl.1 (k_X9_errorAt hG hL1 hK1 y3) (cwV 0 hts gL_law_X9_errorAt rfl rfl rfl (by decide +kernel) ⟨Nat.le_of_ble_eq_true rfl, Nat.le_of_ble_eq_true rfl⟩) hL1 hK1 (by decide) rfl rfl rfl (Nat.le_of_ble_eq_true rfl) dL_law_318 (fun H locs w => ?_)
  refine lv_aload_n hx hb dL_law_321 rfl (lv_at hl 2 rfl) ?_
  obtain ⟨M4, r5, y6, h⟩ := w_cl h
  refine r_callVi (As := []) (rest := [.int r2]) cx w ⟨by show _ ≤ 601024; omega, by show _ ≤ 7293034; omega⟩ hl.1 (k_X12_errorAt hG hL2 hK2 y6) (cwV 0 hts gL_law_X12_errorAt rfl rfl rfl (by decide +kernel) ⟨Nat.le_of_ble_eq_true rfl, Nat.le_of_ble_eq_true rfl⟩) hL2 hK2 (by decide) rfl rfl rfl (Nat.le_of_ble_eq_true rfl) dL_law_322 (fun H locs w => ?_)
  refine lv_icmp_eq (tgt := 1389) hx hb dL_law_325 (by decide) (fun k7 => ?_) (fun k7 => ?_)
  · have h := w_t h k7
    refine W.widen (k := k0 + 20) (n := n0 + 6000) (by omega) (by omega) ?_
    exact hk _ _ _ _ _ h hext cx w (lv_sub hl [0, 1, 2, 3, 4] rfl)
  · have h := w_f h k7
    refine lv_iconst (v := (0 : Int32)) hx hb dL_law_328 (by decide) ?_
    exact h.elim
def fc_4 (G : gS) (M : mS) (x mm o : Nat) (c1 : Int32) (post : gS → mS → Prop) : Prop := p_cl (m_L_count G M x c1 o) (fun M1 r2 => n_X12_count G M1 mm c1 (fun G M r4 => p_cl (m_X12_thrown G M mm) (fun M5 r6 => (p_if (r6 = r2) ((p_if (r2 = 0) (p_ix (0 : Int32) (gN G o) ((p_if ((lg_cmp (mJ M5 o (Int32.toNatClampNeg (0 : Int32))) (Int32.toInt64 r4)) = 0) (post G M5) (False)))) (post G M5))) (False)))))
set_option maxHeartbeats 4000000 in
set_option maxRecDepth 100000 in
theorem lc_4 {p : Program} {e : Env} {s : State} {m : MethodId} {args : Array Value} {below : List Frame} {meth : Method} {c : Code} {A : Nat → Prop} {l : Launch} {D : va_G} {cy : cyS} {G : gS} {M : mS} {H : Heap} {locs : List Loc} {ls : Array Slot} {Q : State → Prop} {x mm o b L k0 n0 : Nat} {xs : Nat → Int32} {i c1 : Int32} {post : gS → mS → Prop} (hst : l.stackTraces = false) (cx : cX p s m args meth c cL_law RL 9 (some .boolean) wsL_law D cy G A) (w : wd D cy G M A s.heap H locs) (hl : lv_has ls 9 [(0, .ref b), (1, .ref x), (2, .ref mm), (3, .ref o), (4, .int i)]) (hX : va_X b L xs s s.heap ∧ b < s.heap.size ∧ ¬ A b) (hkk : k0 + 20 ≤ 601024 ∧ n0 + 6000 ≤ 7293034) (hL1 : x ∈ gL G) (hK1 : gK G x = 8) (hL2 : mm ∈ gL G) (hK2 : gK G mm = 11) (hL3 : o ∈ gL G) (hK3 : gK G o = 13) (hi1 : vp_in (i + (1 : Int32)) L) (hc1 : c1 = xs (Int32.toNatClampNeg (i + (1 : Int32)))) (h : fc_4 G M x mm o c1 post) (hk : ∀ (G1 : gS) (M1 : mS) (H1 : Heap) (locs1 : List Loc) (ls1 : Array Slot), post G1 M1 → ext G G1 → cX p s m args meth c cL_law RL 9 (some .boolean) wsL_law D cy G1 A → wd D cy G1 M1 A s.heap H1 locs1 → lv_has ls1 9 [(0, .ref b), (1, .ref x), (2, .ref mm), (3, .ref o), (4, .int i)] → W p l e room_1 s m args below meth c H1 locs1 (k0 + 20) (n0 + 6000) Q (F0 m 1389 ls1 [])) : W p l e room_1 s m args below meth c H locs k0 n0 Q (F0 m 330 ls []) := by
  obtain ⟨hx, hb, hml, hown, hts, hr, hlocks, hK, hA, hG, hsx⟩ := id cx
  obtain ⟨hkc, hks⟩ := hkk
  have hext := ext_rf (G := G)
  unfold fc_4 at h
  refine lv_aload_n hx hb dL_law_330 rfl (lv_at hl 1 rfl) ?_
  refine lv_aload_n hx hb dL_law_331 rfl (lv_at hl 0 rfl) ?_
  refine lv_iload hx hb dL_law_332 (lv_at hl 4 rfl) ?_
  refine lv_iconst (v := (1 : Int32)) hx hb dL_law_334 (by decide) ?_
  refine lv_iadd hx hb dL_law_335 ?_
  refine va_sld hx hb hX.1 hX.2.1 hX.2.2 w.2.2 hi1 dL_law_336 ?_
  refine r_topI hc1 ?_
  refine lv_aload_n hx hb dL_law_337 rfl (lv_at hl 3 rfl) ?_
  obtain ⟨M1, r2, y3, h⟩ := w_cl h
  refine r_callSW (As := [.ref x, .int c1, .ref o]) (rest := []) cx w ⟨by show _ ≤ 601024; omega, by show _ ≤ 7293034; omega⟩ hl.1 (k_L_count hG hst hL1 hK1 hL3 hK3 y3) (vx_cwSW 3 hts gL_law_L_count rfl rfl rfl (by decide +kernel) ⟨Nat.le_of_ble_eq_true rfl, Nat.le_of_ble_eq_true rfl⟩) rfl rfl (Nat.le_of_ble_eq_true rfl) dL_law_338 (fun H locs w => ?_)
  refine lv_istore (lv' := [(5, .int r2), (0, .ref b), (1, .ref x), (2, .ref mm), (3, .ref o), (4, .int i)]) hx hb dL_law_341 hl (by decide) rfl (fun ls hl => ?_)
  refine lv_aload_n hx hb dL_law_343 rfl (lv_at hl 3 rfl) ?_
  refine lv_aload_n hx hb dL_law_344 rfl (lv_at hl 1 rfl) ?_
  refine lv_iload hx hb dL_law_345 (lv_at hl 5 rfl) ?_
  refine lv_iconst (v := (1 : Int32)) hx hb dL_law_347 (by decide) ?_
  refine lv_iadd hx hb dL_law_348 ?_
  refine va_sld hx hb hX.1 hX.2.1 hX.2.2 w.2.2 hi1 dL_law_349 ?_
  refine r_topI hc1 ?_
  refine r_callNVI (As := [.int c1]) (rest := []) cx w ⟨by show _ ≤ 601024; omega, by show _ ≤ 7293034; omega⟩ hl.1 (kn_X12_count hG hL2 hK2 h) (cwV 1 hts gL_law_X12_count rfl rfl rfl (by decide +kernel) ⟨Nat.le_of_ble_eq_true rfl, Nat.le_of_ble_eq_true rfl⟩) hL2 hK2 (by decide) rfl rfl rfl (Nat.le_of_ble_eq_true rfl) dL_law_350 (fun G1 M1 r4 H locs h xe cx w => ?_)
  have hK1 := ext_K xe hL1 hK1
  have hL1 := ext_L xe hL1
  have hK2 := ext_K xe hL2 hK2
  have hL2 := ext_L xe hL2
  have hK3 := ext_K xe hL3 hK3
  have hL3 := ext_L xe hL3
  have hext := ext_tr hext xe
  have hG := cX_wt cx
  clear xe
  obtain ⟨G, eG⟩ : ∃ z, z = G1 := ⟨_, rfl⟩
  obtain ⟨M, eM⟩ : ∃ z, z = M1 := ⟨_, rfl⟩
  subst eG
  subst eM
  refine lv_istore (lv' := [(6, .int r4), (5, .int r2), (0, .ref b), (1, .ref x), (2, .ref mm), (3, .ref o), (4, .int i)]) hx hb dL_law_353 hl (by decide) rfl (fun ls hl => ?_)
  refine lv_aload_n hx hb dL_law_355 rfl (lv_at hl 4 rfl) ?_
  obtain ⟨M5, r6, y7, h⟩ := w_cl h
  refine r_callVi (As := []) (rest := []) cx w ⟨by show _ ≤ 601024; omega, by show _ ≤ 7293034; omega⟩ hl.1 (k_X12_thrown hG hL2 hK2 y7) (cwV 0 hts gL_law_X12_thrown rfl rfl rfl (by decide +kernel) ⟨Nat.le_of_ble_eq_true rfl, Nat.le_of_ble_eq_true rfl⟩) hL2 hK2 (by decide) rfl rfl rfl (Nat.le_of_ble_eq_true rfl) dL_law_356 (fun H locs w => ?_)
  refine lv_iload hx hb dL_law_359 (lv_at hl 1 rfl) ?_
  refine lv_icmp_eq (tgt := 366) hx hb dL_law_361 (by decide) (fun k8 => ?_) (fun k8 => ?_)
  · have h := w_t h k8
    refine lv_iload hx hb dL_law_366 (lv_at hl 1 rfl) ?_
    refine lv_if_ne (tgt := 383) hx hb dL_law_368 (by decide) (fun k9 => ?_) (fun k9 => ?_)
    · have h := w_f h k9
      refine lv_goto (tgt := 1389) hx hb dL_law_383 (by decide) ?_
      refine W.widen (k := k0 + 20) (n := n0 + 6000) (by omega) (by omega) ?_
      exact hk _ _ _ _ _ h hext cx w (lv_sub hl [2, 3, 4, 5, 6] rfl)
    · have h := w_t h k9
      refine lv_aload_n hx hb dL_law_371 rfl (lv_at hl 5 rfl) ?_
      refine lv_iconst (v := (0 : Int32)) hx hb dL_law_372 (by decide) ?_
      obtain ⟨z10, h⟩ := w_ix h
      refine r_lald cx w hL3 hK3 z10 dL_law_373 ?_
      refine lv_iload hx hb dL_law_374 (lv_at hl 0 rfl) ?_
      refine lv_i2l (v := (Int32.toInt64 r4)) hx hb dL_law_376 rfl ?_
      refine W.lcmp hx hb dL_law_377 ?_
      refine lv_if_eq (tgt := 383) hx hb dL_law_378 (by decide) (fun k11 => ?_) (fun k11 => ?_)
      · have h := w_t h k11
        refine lv_goto (tgt := 1389) hx hb dL_law_383 (by decide) ?_
        refine W.widen (k := k0 + 20) (n := n0 + 6000) (by omega) (by omega) ?_
        exact hk _ _ _ _ _ h hext cx w (lv_sub hl [2, 3, 4, 5, 6] rfl)
      · have h := w_f h k11
        refine lv_iconst (v := (0 : Int32)) hx hb dL_law_381 (by decide) ?_
        exact h.elim
  · have h := w_f h k8
    refine lv_iconst (v := (0 : Int32)) hx hb dL_law_364 (by decide) ?_
    exact h.elim
def fc_5 (G : gS) (M : mS) (x mm o : Nat) (c1 c2 : Int32) (post : gS → mS → Prop) : Prop := p_cl (m_L_stone G M x c1 c2 o) (fun M1 r2 => p_cl (m_X12_stone G M1 mm c1 c2) (fun M4 r5 => p_cl (m_X12_thrown G M4 mm) (fun M7 r8 => (p_if (r8 = r2) ((p_if (r2 = 0) (p_ix (0 : Int32) (gN G o) ((p_if ((lg_cmp (mJ M7 o (Int32.toNatClampNeg (0 : Int32))) (Int32.toInt64 r5)) = 0) (post G M7) (False)))) (post G M7))) (False)))))
set_option maxHeartbeats 4000000 in
set_option maxRecDepth 100000 in
theorem lc_5 {p : Program} {e : Env} {s : State} {m : MethodId} {args : Array Value} {below : List Frame} {meth : Method} {c : Code} {A : Nat → Prop} {l : Launch} {D : va_G} {cy : cyS} {G : gS} {M : mS} {H : Heap} {locs : List Loc} {ls : Array Slot} {Q : State → Prop} {x mm o b L k0 n0 : Nat} {xs : Nat → Int32} {i c1 c2 : Int32} {post : gS → mS → Prop} (hst : l.stackTraces = false) (cx : cX p s m args meth c cL_law RL 9 (some .boolean) wsL_law D cy G A) (w : wd D cy G M A s.heap H locs) (hl : lv_has ls 9 [(0, .ref b), (1, .ref x), (2, .ref mm), (3, .ref o), (4, .int i)]) (hX : va_X b L xs s s.heap ∧ b < s.heap.size ∧ ¬ A b) (hkk : k0 + 20 ≤ 601024 ∧ n0 + 6000 ≤ 7293034) (hL1 : x ∈ gL G) (hK1 : gK G x = 8) (hL2 : mm ∈ gL G) (hK2 : gK G mm = 11) (hL3 : o ∈ gL G) (hK3 : gK G o = 13) (hi1 : vp_in (i + (1 : Int32)) L) (hc1 : c1 = xs (Int32.toNatClampNeg (i + (1 : Int32)))) (hi2 : vp_in (i + (2 : Int32)) L) (hc2 : c2 = xs (Int32.toNatClampNeg (i + (2 : Int32)))) (h : fc_5 G M x mm o c1 c2 post) (hk : ∀ (G1 : gS) (M1 : mS) (H1 : Heap) (locs1 : List Loc) (ls1 : Array Slot), post G1 M1 → ext G G1 → cX p s m args meth c cL_law RL 9 (some .boolean) wsL_law D cy G1 A → wd D cy G1 M1 A s.heap H1 locs1 → lv_has ls1 9 [(0, .ref b), (1, .ref x), (2, .ref mm), (3, .ref o), (4, .int i)] → W p l e room_1 s m args below meth c H1 locs1 (k0 + 20) (n0 + 6000) Q (F0 m 1389 ls1 [])) : W p l e room_1 s m args below meth c H locs k0 n0 Q (F0 m 386 ls []) := by
  obtain ⟨hx, hb, hml, hown, hts, hr, hlocks, hK, hA, hG, hsx⟩ := id cx
  obtain ⟨hkc, hks⟩ := hkk
  have hext := ext_rf (G := G)
  unfold fc_5 at h
  refine lv_aload_n hx hb dL_law_386 rfl (lv_at hl 1 rfl) ?_
  refine lv_aload_n hx hb dL_law_387 rfl (lv_at hl 0 rfl) ?_
  refine lv_iload hx hb dL_law_388 (lv_at hl 4 rfl) ?_
  refine lv_iconst (v := (1 : Int32)) hx hb dL_law_390 (by decide) ?_
  refine lv_iadd hx hb dL_law_391 ?_
  refine va_sld hx hb hX.1 hX.2.1 hX.2.2 w.2.2 hi1 dL_law_392 ?_
  refine r_topI hc1 ?_
  refine lv_aload_n hx hb dL_law_393 rfl (lv_at hl 0 rfl) ?_
  refine lv_iload hx hb dL_law_394 (lv_at hl 4 rfl) ?_
  refine lv_iconst (v := (2 : Int32)) hx hb dL_law_396 (by decide) ?_
  refine lv_iadd hx hb dL_law_397 ?_
  refine va_sld hx hb hX.1 hX.2.1 hX.2.2 w.2.2 hi2 dL_law_398 ?_
  refine r_topI hc2 ?_
  refine lv_aload_n hx hb dL_law_399 rfl (lv_at hl 3 rfl) ?_
  obtain ⟨M1, r2, y3, h⟩ := w_cl h
  refine r_callSW (As := [.ref x, .int c1, .int c2, .ref o]) (rest := []) cx w ⟨by show _ ≤ 601024; omega, by show _ ≤ 7293034; omega⟩ hl.1 (k_L_stone hG hst hL1 hK1 hL3 hK3 y3) (vx_cwSW 4 hts gL_law_L_stone rfl rfl rfl (by decide +kernel) ⟨Nat.le_of_ble_eq_true rfl, Nat.le_of_ble_eq_true rfl⟩) rfl rfl (Nat.le_of_ble_eq_true rfl) dL_law_400 (fun H locs w => ?_)
  refine lv_istore (lv' := [(5, .int r2), (0, .ref b), (1, .ref x), (2, .ref mm), (3, .ref o), (4, .int i)]) hx hb dL_law_403 hl (by decide) rfl (fun ls hl => ?_)
  refine lv_aload_n hx hb dL_law_405 rfl (lv_at hl 3 rfl) ?_
  refine lv_aload_n hx hb dL_law_406 rfl (lv_at hl 1 rfl) ?_
  refine lv_iload hx hb dL_law_407 (lv_at hl 5 rfl) ?_
  refine lv_iconst (v := (1 : Int32)) hx hb dL_law_409 (by decide) ?_
  refine lv_iadd hx hb dL_law_410 ?_
  refine va_sld hx hb hX.1 hX.2.1 hX.2.2 w.2.2 hi1 dL_law_411 ?_
  refine r_topI hc1 ?_
  refine lv_aload_n hx hb dL_law_412 rfl (lv_at hl 1 rfl) ?_
  refine lv_iload hx hb dL_law_413 (lv_at hl 5 rfl) ?_
  refine lv_iconst (v := (2 : Int32)) hx hb dL_law_415 (by decide) ?_
  refine lv_iadd hx hb dL_law_416 ?_
  refine va_sld hx hb hX.1 hX.2.1 hX.2.2 w.2.2 hi2 dL_law_417 ?_
  refine r_topI hc2 ?_
  obtain ⟨M4, r5, y6, h⟩ := w_cl h
  refine r_callVi (As := [.int c1, .int c2]) (rest := []) cx w ⟨by show _ ≤ 601024; omega, by show _ ≤ 7293034; omega⟩ hl.1 (k_X12_stone hG hL2 hK2 y6) (cwV 2 hts gL_law_X12_stone rfl rfl rfl (by decide +kernel) ⟨Nat.le_of_ble_eq_true rfl, Nat.le_of_ble_eq_true rfl⟩) hL2 hK2 (by decide) rfl rfl rfl (Nat.le_of_ble_eq_true rfl) dL_law_418 (fun H locs w => ?_)
  refine lv_istore (lv' := [(6, .int r5), (5, .int r2), (0, .ref b), (1, .ref x), (2, .ref mm), (3, .ref o), (4, .int i)]) hx hb dL_law_421 hl (by decide) rfl (fun ls hl => ?_)
  refine lv_aload_n hx hb dL_law_423 rfl (lv_at hl 4 rfl) ?_
  obtain ⟨M7, r8, y9, h⟩ := w_cl h
  refine r_callVi (As := []) (rest := []) cx w ⟨by show _ ≤ 601024; omega, by show _ ≤ 7293034; omega⟩ hl.1 (k_X12_thrown hG hL2 hK2 y9) (cwV 0 hts gL_law_X12_thrown rfl rfl rfl (by decide +kernel) ⟨Nat.le_of_ble_eq_true rfl, Nat.le_of_ble_eq_true rfl⟩) hL2 hK2 (by decide) rfl rfl rfl (Nat.le_of_ble_eq_true rfl) dL_law_424 (fun H locs w => ?_)
  refine lv_iload hx hb dL_law_427 (lv_at hl 1 rfl) ?_
  refine lv_icmp_eq (tgt := 434) hx hb dL_law_429 (by decide) (fun k10 => ?_) (fun k10 => ?_)
  · have h := w_t h k10
    refine lv_iload hx hb dL_law_434 (lv_at hl 1 rfl) ?_
    refine lv_if_ne (tgt := 451) hx hb dL_law_436 (by decide) (fun k11 => ?_) (fun k11 => ?_)
    · have h := w_f h k11
      refine lv_goto (tgt := 1389) hx hb dL_law_451 (by decide) ?_
      refine W.widen (k := k0 + 20) (n := n0 + 6000) (by omega) (by omega) ?_
      exact hk _ _ _ _ _ h hext cx w (lv_sub hl [2, 3, 4, 5, 6] rfl)
    · have h := w_t h k11
      refine lv_aload_n hx hb dL_law_439 rfl (lv_at hl 5 rfl) ?_
      refine lv_iconst (v := (0 : Int32)) hx hb dL_law_440 (by decide) ?_
      obtain ⟨z12, h⟩ := w_ix h
      refine r_lald cx w hL3 hK3 z12 dL_law_441 ?_
      refine lv_iload hx hb dL_law_442 (lv_at hl 0 rfl) ?_
      refine lv_i2l (v := (Int32.toInt64 r5)) hx hb dL_law_444 rfl ?_
      refine W.lcmp hx hb dL_law_445 ?_
      refine lv_if_eq (tgt := 451) hx hb dL_law_446 (by decide) (fun k13 => ?_) (fun k13 => ?_)
      · have h := w_t h k13
        refine lv_goto (tgt := 1389) hx hb dL_law_451 (by decide) ?_
        refine W.widen (k := k0 + 20) (n := n0 + 6000) (by omega) (by omega) ?_
        exact hk _ _ _ _ _ h hext cx w (lv_sub hl [2, 3, 4, 5, 6] rfl)
      · have h := w_f h k13
        refine lv_iconst (v := (0 : Int32)) hx hb dL_law_449 (by decide) ?_
        exact h.elim
  · have h := w_f h k10
    refine lv_iconst (v := (0 : Int32)) hx hb dL_law_432 (by decide) ?_
    exact h.elim
