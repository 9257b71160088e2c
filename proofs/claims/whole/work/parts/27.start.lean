theorem wk_L_law_X9 : ∀ w ∈ wsX90, w ∈ wsL_law := inlX9
theorem wk_L_law_X12 : ∀ w ∈ wsX120, w ∈ wsL_law := inlX12
def n_L_start (G : gS) (M : mS) (post : gS → mS → Nat → Nat → Nat → Prop) : Prop := ∀ q1, q1 ∉ gL G → ∀ G2, G2 = gNw G q1 8 0 → ∀ M3, M3 = wZ M q1 → (n_X9_init G2 M3 q1 (fun G4 M5 => ∀ q6, q6 ∉ gL G4 → ∀ G7, G7 = gNw G4 q6 11 0 → ∀ M8, M8 = wZ M5 q6 → (n_X12_init G7 M8 q6 (fun G9 M10 => ∀ q11, q11 ∉ gL G9 → ∀ G12, G12 = gNw G9 q11 13 1 → ∀ M13, M13 = wZ M10 q11 → (post G12 M13 q1 q6 q11)))))
set_option maxHeartbeats 4000000 in
set_option maxRecDepth 100000 in
theorem ls_start {p : Program} {e : Env} {s : State} {m : MethodId} {args : Array Value} {below : List Frame} {meth : Method} {c : Code} {A : Nat → Prop} {l : Launch} {D : va_G} {cy : cyS} {G : gS} {M : mS} {H : Heap} {locs : List Loc} {ls : Array Slot} {Q : State → Prop} {b : Nat} {post : gS → mS → Nat → Nat → Nat → Prop} (cx : cX p s m args meth c cL_law RL 9 (some .boolean) wsL_law D cy G A) (w : wd D cy G M A s.heap H locs) (hl : lv_has ls 9 [(0, .ref b)]) (h : n_L_start G M post) (hk : ∀ (G1 : gS) (M1 : mS) (x mm o : Nat) (H1 : Heap) (locs1 : List Loc) (ls1 : Array Slot), post G1 M1 x mm o → x ∈ gL G1 → gK G1 x = 8 → mm ∈ gL G1 → gK G1 mm = 11 → o ∈ gL G1 → gK G1 o = 13 → cX p s m args meth c cL_law RL 9 (some .boolean) wsL_law D cy G1 A → wd D cy G1 M1 A s.heap H1 locs1 → lv_has ls1 9 [(0, .ref b), (1, .ref x), (2, .ref mm), (3, .ref o), (4, .int 0)] → W p l e room_1 s m args below meth c H1 locs1 200 50000 Q (F0 m 23 ls1 [])) : W p l e room_1 s m args below meth c H locs 0 0 Q (F0 m 0 ls []) := by
  unfold n_L_start at h
  obtain ⟨hx, hb, hml, hown, hts, hr, hlocks, hK, hA, -, hsx⟩ := id cx
  have hext := ext_rf (G := G)
  refine r_newO cx w tyX9 tyX9_ok rfl (by decide) wk_L_law_X9 (lkL_in wsL_law0_r1 (List.mem_of_getElem? (i := 0) rfl) _ (List.mem_of_getElem? (i := 0) rfl)) (lkL_in wsL_law0_r1 (List.mem_of_getElem? (i := 0) rfl) _ (List.mem_of_getElem? (i := 1) rfl)) (lkL_in wsL_law0_r1 (List.mem_of_getElem? (i := 0) rfl) _ (List.mem_of_getElem? (i := 2) rfl)) df_8 (Nat.le_of_ble_eq_true rfl) (Nat.le_of_ble_eq_true rfl) dL_law_0 (fun q1 H nq1 w cx => ?_)
  obtain ⟨G2, eG2⟩ : ∃ z, z = gNw G q1 8 0 := ⟨_, rfl⟩
  obtain ⟨M3, eM3⟩ : ∃ z, z = wZ M q1 := ⟨_, rfl⟩
  rw [← eG2] at cx
  rw [← eG2, ← eM3] at w
  have h := h q1 nq1 G2 eG2 M3 eM3
  have xG2 := ext_nw eG2 nq1
  have hext := ext_tr hext xG2
  have hLq1 := nw_Lq eG2
  have hKq1 := nw_Kq eG2
  refine lv_dup hx hb dL_law_3 rfl ?_
  refine r_callN (As := []) (rest := [.ref q1]) cx w ⟨by show _ ≤ 601024; omega, by show _ ≤ 7293034; omega⟩ hl.1 (kn_X9_init (cX_wt cx) hLq1 hKq1 h) (cwI 0 hts gL_law_X9_init rfl rfl rfl (hts _ (lkL_in wsL_law0_r1 (List.mem_of_getElem? (i := 0) rfl) _ (List.mem_of_getElem? (i := 2) rfl))) (hts _ (lkL_in wsL_law0_r1 (List.mem_of_getElem? (i := 0) rfl) _ (List.mem_of_getElem? (i := 7) rfl))) (hts _ (lkL_in wsL_law0_r1 (List.mem_of_getElem? (i := 0) rfl) _ (List.mem_of_getElem? (i := 8) rfl))) rfl (by decide +kernel) ⟨Nat.le_of_ble_eq_true rfl, Nat.le_of_ble_eq_true rfl⟩) rfl rfl (Nat.le_of_ble_eq_true rfl) dL_law_4 (fun G4 M5 H locs h xG4 cx w => ?_)
  have hKq1 := ext_K xG4 hLq1 hKq1
  have hLq1 := ext_L xG4 hLq1
  have hext := ext_tr hext xG4
  refine lv_astore_n (lv' := [(1, .ref q1), (0, .ref b)]) hx hb dL_law_7 rfl hl (by decide) rfl (fun ls hl => ?_)
  refine r_newO cx w tyX12 tyX12_ok rfl (by decide) wk_L_law_X12 (lkL_in wsL_law0_r1 (List.mem_of_getElem? (i := 0) rfl) _ (List.mem_of_getElem? (i := 3) rfl)) (lkL_in wsL_law0_r1 (List.mem_of_getElem? (i := 0) rfl) _ (List.mem_of_getElem? (i := 4) rfl)) (lkL_in wsL_law0_r1 (List.mem_of_getElem? (i := 0) rfl) _ (List.mem_of_getElem? (i := 5) rfl)) df_11 (Nat.le_of_ble_eq_true rfl) (Nat.le_of_ble_eq_true rfl) dL_law_8 (fun q6 H nq6 w cx => ?_)
  obtain ⟨G7, eG7⟩ : ∃ z, z = gNw G4 q6 11 0 := ⟨_, rfl⟩
  obtain ⟨M8, eM8⟩ : ∃ z, z = wZ M5 q6 := ⟨_, rfl⟩
  rw [← eG7] at cx
  rw [← eG7, ← eM8] at w
  have h := h q6 nq6 G7 eG7 M8 eM8
  have xG7 := ext_nw eG7 nq6
  have hKq1 := ext_K xG7 hLq1 hKq1
  have hLq1 := ext_L xG7 hLq1
  have hext := ext_tr hext xG7
  have hLq6 := nw_Lq eG7
  have hKq6 := nw_Kq eG7
  refine lv_dup hx hb dL_law_11 rfl ?_
  refine r_callN (As := []) (rest := [.ref q6]) cx w ⟨by show _ ≤ 601024; omega, by show _ ≤ 7293034; omega⟩ hl.1 (kn_X12_init (cX_wt cx) hLq6 hKq6 h) (cwI 0 hts gL_law_X12_init rfl rfl rfl (hts _ (lkL_in wsL_law0_r1 (List.mem_of_getElem? (i := 0) rfl) _ (List.mem_of_getElem? (i := 5) rfl))) (hts _ (lkL_in wsL_law0_r7 (List.mem_of_getElem? (i := 6) rfl) _ (List.mem_of_getElem? (i := 17) rfl))) (hts _ (lkL_in wsL_law0_r7 (List.mem_of_getElem? (i := 6) rfl) _ (List.mem_of_getElem? (i := 18) rfl))) rfl (by decide +kernel) ⟨Nat.le_of_ble_eq_true rfl, Nat.le_of_ble_eq_true rfl⟩) rfl rfl (Nat.le_of_ble_eq_true rfl) dL_law_12 (fun G9 M10 H locs h xG9 cx w => ?_)
  have hKq1 := ext_K xG9 hLq1 hKq1
  have hLq1 := ext_L xG9 hLq1
  have hKq6 := ext_K xG9 hLq6 hKq6
  have hLq6 := ext_L xG9 hLq6
  have hext := ext_tr hext xG9
  refine lv_astore_n (lv' := [(2, .ref q6), (1, .ref q1), (0, .ref b)]) hx hb dL_law_15 rfl hl (by decide) rfl (fun ls hl => ?_)
  refine lv_iconst (v := (1 : Int32)) hx hb dL_law_16 (by decide) ?_
  refine r_newJ (N := 1) cx w (lkL_in wsL_law0_r1 (List.mem_of_getElem? (i := 0) rfl) _ (List.mem_of_getElem? (i := 6) rfl)) (by decide) (by decide) (Nat.le_of_ble_eq_true rfl) (Nat.le_of_ble_eq_true rfl) (Nat.le_of_ble_eq_true rfl) dL_law_17 (fun q11 H nq11 w cx => ?_)
  obtain ⟨G12, eG12⟩ : ∃ z, z = gNw G9 q11 13 1 := ⟨_, rfl⟩
  obtain ⟨M13, eM13⟩ : ∃ z, z = wZ M10 q11 := ⟨_, rfl⟩
  rw [← eG12] at cx
  rw [← eG12, ← eM13] at w
  have h := h q11 nq11 G12 eG12 M13 eM13
  have xG12 := ext_nw eG12 nq11
  have hKq1 := ext_K xG12 hLq1 hKq1
  have hLq1 := ext_L xG12 hLq1
  have hKq6 := ext_K xG12 hLq6 hKq6
  have hLq6 := ext_L xG12 hLq6
  have hext := ext_tr hext xG12
  have hLq11 := nw_Lq eG12
  have hKq11 := nw_Kq eG12
  refine lv_astore_n (lv' := [(3, .ref q11), (2, .ref q6), (1, .ref q1), (0, .ref b)]) hx hb dL_law_19 rfl hl (by decide) rfl (fun ls hl => ?_)
  refine lv_iconst (v := (0 : Int32)) hx hb dL_law_20 (by decide) ?_
  refine lv_istore (lv' := [(4, .int ((0 : Int32))), (3, .ref q11), (2, .ref q6), (1, .ref q1), (0, .ref b)]) hx hb dL_law_21 hl (by decide) rfl (fun ls hl => ?_)
  refine W.widen (k := 200) (n := 50000) (by omega) (by omega) ?_
  exact hk _ _ _ _ _ _ _ _ h hLq1 hKq1 hLq6 hKq6 hLq11 hKq11 cx w (lv_sub hl [4, 3, 2, 1, 0] rfl)
