theorem wk_X6_init_X6 : ∀ w ∈ wsX60, w ∈ wsX6_init := by decide +kernel
abbrev rnX6_init : Room := { frames := 1, cells := 1, slots := 2000, locals := 60 }
def n_X6_init (G : gS) (M : mS) (a0 : Nat) (post : gS → mS → Prop) : Prop := ∀ q1, q1 ∉ gL G → ∀ G2, G2 = gNw G q1 12 2000 → ∀ M3, M3 = wZ M q1 → (∀ G4, G4 = gSt G2 a0 0 q1 → (post G4 M3))
set_option maxHeartbeats 4000000 in
set_option maxRecDepth 100000 in
theorem kn_X6_init {l : Launch} {D : va_G} {cy : cyS} {G : gS} {M : mS} {post : gS → mS → Prop} {a0 : Nat} (hG : wt G) (hLa0 : a0 ∈ gL G) (hKa0 : gK G a0 = 5) (h : n_X6_init G M a0 post) : ctN l yX6_init wsX6_init rnX6_init D cy G M [.ref a0] 1 2000 post := by
  unfold n_X6_init at h
  refine ctN_of (cc := cX6_init) (nL := 1) (lv := [(0, .ref a0)]) hG (by decide) rfl (Nat.le_of_ble_eq_true rfl) rfl ?_
  intro p e s m args below meth c sz ls hini cx w hl
  obtain ⟨hx, hb, hml, hown, hts, hr, hlocks, hK, hA, -, hsx⟩ := id cx
  have hini : meth.name = "<init>" := hini
  have hext := ext_rf (G := G)
  refine lv_aload_n hx hb dX6_init_0 rfl (lv_at hl 0 rfl) ?_
  refine W.objInit hx hb hown (hts (.methodLink RX6 1 objectInit) (List.mem_of_getElem? (i := 1) rfl)) (hts (.instanceMethod objectInit) (List.mem_of_getElem? (i := 2) rfl)) (hts _ (List.mem_of_getElem? (i := 3) rfl)) rfl (by rw [hml]; exact hl.1) rfl dX6_init_1 (Nat.le_of_ble_eq_true rfl) (Nat.le_of_ble_eq_true rfl) ?_
  refine W.eq (g2 := F0 m 4 ls []) rfl ?_
  refine lv_aload_n hx hb dX6_init_4 rfl (lv_at hl 0 rfl) ?_
  refine lv_sipush (v := (2000 : Int32)) hx hb dX6_init_5 (by decide) ?_
  refine r_newI (N := 2000) cx w (List.mem_of_getElem? (i := 4) rfl) (by decide) (by decide) (Nat.le_of_ble_eq_true rfl) (Nat.le_of_ble_eq_true rfl) (Nat.le_of_ble_eq_true rfl) dX6_init_8 (fun q1 H nq1 w cx => ?_)
  obtain ⟨G2, eG2⟩ : ∃ z, z = gNw G q1 12 2000 := ⟨_, rfl⟩
  obtain ⟨M3, eM3⟩ : ∃ z, z = wZ M q1 := ⟨_, rfl⟩
  rw [← eG2] at cx
  rw [← eG2, ← eM3] at w
  have h := h q1 nq1 G2 eG2 M3 eM3
  have xG2 := ext_nw eG2 nq1
  have hKa0 := ext_K xG2 hLa0 hKa0
  have hLa0 := ext_L xG2 hLa0
  have hext := ext_tr hext xG2
  have hLq1 := nw_Lq eG2
  have hKq1 := nw_Kq eG2
  refine r_putRF (k := 0) cx w tyX6 tyX6_ok nmX6 hLa0 hKa0 (by decide) rfl wk_X6_init_X6 (by decide) rfl hini rfl (tyX6_ok 0 (by decide)) rfl rfl sr_5_0 (ln_5 _ _ (by decide)) hLq1 (by rw [hKq1]; rfl) (List.mem_of_getElem? (i := 5) rfl) dX6_init_10 (fun H locs w cx => ?_)
  obtain ⟨G4, eG4⟩ : ∃ z, z = gSt G2 a0 0 q1 := ⟨_, rfl⟩
  rw [← eG4] at w cx
  have h := h G4 eG4
  have xG4 := ext_st eG4
  have hKa0 := ext_K xG4 hLa0 hKa0
  have hLa0 := ext_L xG4 hLa0
  have hKq1 := ext_K xG4 hLq1 hKq1
  have hLq1 := ext_L xG4 hLq1
  have hext := ext_tr hext xG4
  exact r_vretN cx w h hext (Nat.le_of_ble_eq_true rfl) (Nat.le_of_ble_eq_true rfl) dX6_init_13
theorem wk_X3_init_X3 : ∀ w ∈ wsX30, w ∈ wsX3_init := by decide +kernel
abbrev rnX3_init : Room := { frames := 1, cells := 8, slots := 915, locals := 60 }
def n_X3_init (G : gS) (M : mS) (a0 : Nat) (post : gS → mS → Prop) : Prop := ∀ q1, q1 ∉ gL G → ∀ G2, G2 = gNw G q1 12 5 → ∀ M3, M3 = wZ M q1 → (∀ G4, G4 = gSt G2 a0 1 q1 → (∀ q5, q5 ∉ gL G4 → ∀ G6, G6 = gNw G4 q5 12 30 → ∀ M7, M7 = wZ M3 q5 → (∀ G8, G8 = gSt G6 a0 2 q5 → (∀ q9, q9 ∉ gL G8 → ∀ G10, G10 = gNw G8 q9 12 20 → ∀ M11, M11 = wZ M7 q9 → (∀ G12, G12 = gSt G10 a0 4 q9 → (∀ q13, q13 ∉ gL G12 → ∀ G14, G14 = gNw G12 q13 12 20 → ∀ M15, M15 = wZ M11 q13 → (∀ G16, G16 = gSt G14 a0 5 q13 → (∀ q17, q17 ∉ gL G16 → ∀ G18, G18 = gNw G16 q17 12 20 → ∀ M19, M19 = wZ M15 q17 → (∀ G20, G20 = gSt G18 a0 6 q17 → (∀ q21, q21 ∉ gL G20 → ∀ G22, G22 = gNw G20 q21 12 20 → ∀ M23, M23 = wZ M19 q21 → (∀ G24, G24 = gSt G22 a0 7 q21 → (∀ q25, q25 ∉ gL G24 → ∀ G26, G26 = gNw G24 q25 12 400 → ∀ M27, M27 = wZ M23 q25 → (∀ G28, G28 = gSt G26 a0 9 q25 → (∀ q29, q29 ∉ gL G28 → ∀ G30, G30 = gNw G28 q29 12 400 → ∀ M31, M31 = wZ M27 q29 → (∀ G32, G32 = gSt G30 a0 10 q29 → (post G32 M31))))))))))))))))
set_option maxHeartbeats 4000000 in
set_option maxRecDepth 100000 in
theorem kn_X3_init {l : Launch} {D : va_G} {cy : cyS} {G : gS} {M : mS} {post : gS → mS → Prop} {a0 : Nat} (hG : wt G) (hLa0 : a0 ∈ gL G) (hKa0 : gK G a0 = 2) (h : n_X3_init G M a0 post) : ctN l yX3_init wsX3_init rnX3_init D cy G M [.ref a0] 8 915 post := by
  unfold n_X3_init at h
  refine ctN_of (cc := cX3_init) (nL := 1) (lv := [(0, .ref a0)]) hG (by decide) rfl (Nat.le_of_ble_eq_true rfl) rfl ?_
  intro p e s m args below meth c sz ls hini cx w hl
  obtain ⟨hx, hb, hml, hown, hts, hr, hlocks, hK, hA, -, hsx⟩ := id cx
  have hini : meth.name = "<init>" := hini
  have hext := ext_rf (G := G)
  refine lv_aload_n hx hb dX3_init_0 rfl (lv_at hl 0 rfl) ?_
  refine W.objInit hx hb hown (hts (.methodLink RX3 3 objectInit) (List.mem_of_getElem? (i := 1) rfl)) (hts (.instanceMethod objectInit) (List.mem_of_getElem? (i := 2) rfl)) (hts _ (List.mem_of_getElem? (i := 3) rfl)) rfl (by rw [hml]; exact hl.1) rfl dX3_init_1 (Nat.le_of_ble_eq_true rfl) (Nat.le_of_ble_eq_true rfl) ?_
  refine W.eq (g2 := F0 m 4 ls []) rfl ?_
  refine lv_aload_n hx hb dX3_init_4 rfl (lv_at hl 0 rfl) ?_
  refine lv_iconst (v := (5 : Int32)) hx hb dX3_init_5 (by decide) ?_
  refine r_newI (N := 5) cx w (List.mem_of_getElem? (i := 4) rfl) (by decide) (by decide) (Nat.le_of_ble_eq_true rfl) (Nat.le_of_ble_eq_true rfl) (Nat.le_of_ble_eq_true rfl) dX3_init_6 (fun q1 H nq1 w cx => ?_)
  obtain ⟨G2, eG2⟩ : ∃ z, z = gNw G q1 12 5 := ⟨_, rfl⟩
  obtain ⟨M3, eM3⟩ : ∃ z, z = wZ M q1 := ⟨_, rfl⟩
  rw [← eG2] at cx
  rw [← eG2, ← eM3] at w
  have h := h q1 nq1 G2 eG2 M3 eM3
  have xG2 := ext_nw eG2 nq1
  have hKa0 := ext_K xG2 hLa0 hKa0
  have hLa0 := ext_L xG2 hLa0
  have hext := ext_tr hext xG2
  have hLq1 := nw_Lq eG2
  have hKq1 := nw_Kq eG2
  refine r_putRF (k := 1) cx w tyX3 tyX3_ok nmX3 hLa0 hKa0 (by decide) rfl wk_X3_init_X3 (by decide) rfl hini rfl (tyX3_ok 1 (by decide)) rfl rfl sr_2_1 (ln_2 _ _ (by decide)) hLq1 (by rw [hKq1]; rfl) (List.mem_of_getElem? (i := 5) rfl) dX3_init_8 (fun H locs w cx => ?_)
  obtain ⟨G4, eG4⟩ : ∃ z, z = gSt G2 a0 1 q1 := ⟨_, rfl⟩
  rw [← eG4] at w cx
  have h := h G4 eG4
  have xG4 := ext_st eG4
  have hKa0 := ext_K xG4 hLa0 hKa0
  have hLa0 := ext_L xG4 hLa0
  have hKq1 := ext_K xG4 hLq1 hKq1
  have hLq1 := ext_L xG4 hLq1
  have hext := ext_tr hext xG4
  refine lv_aload_n hx hb dX3_init_11 rfl (lv_at hl 0 rfl) ?_
  refine lv_bipush (v := (30 : Int32)) hx hb dX3_init_12 (by decide) ?_
  refine r_newI (N := 30) cx w (List.mem_of_getElem? (i := 4) rfl) (by decide) (by decide) (Nat.le_of_ble_eq_true rfl) (Nat.le_of_ble_eq_true rfl) (Nat.le_of_ble_eq_true rfl) dX3_init_14 (fun q5 H nq5 w cx => ?_)
  obtain ⟨G6, eG6⟩ : ∃ z, z = gNw G4 q5 12 30 := ⟨_, rfl⟩
  obtain ⟨M7, eM7⟩ : ∃ z, z = wZ M3 q5 := ⟨_, rfl⟩
  rw [← eG6] at cx
  rw [← eG6, ← eM7] at w
  have h := h q5 nq5 G6 eG6 M7 eM7
  have xG6 := ext_nw eG6 nq5
  have hKa0 := ext_K xG6 hLa0 hKa0
  have hLa0 := ext_L xG6 hLa0
  have hKq1 := ext_K xG6 hLq1 hKq1
  have hLq1 := ext_L xG6 hLq1
  have hext := ext_tr hext xG6
  have hLq5 := nw_Lq eG6
  have hKq5 := nw_Kq eG6
  refine r_putRF (k := 2) cx w tyX3 tyX3_ok nmX3 hLa0 hKa0 (by decide) rfl wk_X3_init_X3 (by decide) rfl hini rfl (tyX3_ok 2 (by decide)) rfl rfl sr_2_2 (ln_2 _ _ (by decide)) hLq5 (by rw [hKq5]; rfl) (List.mem_of_getElem? (i := 6) rfl) dX3_init_16 (fun H locs w cx => ?_)
  obtain ⟨G8, eG8⟩ : ∃ z, z = gSt G6 a0 2 q5 := ⟨_, rfl⟩
  rw [← eG8] at w cx
  have h := h G8 eG8
  have xG8 := ext_st eG8
  have hKa0 := ext_K xG8 hLa0 hKa0
  have hLa0 := ext_L xG8 hLa0
  have hKq1 := ext_K xG8 hLq1 hKq1
  have hLq1 := ext_L xG8 hLq1
  have hKq5 := ext_K xG8 hLq5 hKq5
  have hLq5 := ext_L xG8 hLq5
  have hext := ext_tr hext xG8
  refine lv_aload_n hx hb dX3_init_19 rfl (lv_at hl 0 rfl) ?_
  refine lv_bipush (v := (20 : Int32)) hx hb dX3_init_20 (by decide) ?_
  refine r_newI (N := 20) cx w (List.mem_of_getElem? (i := 4) rfl) (by decide) (by decide) (Nat.le_of_ble_eq_true rfl) (Nat.le_of_ble_eq_true rfl) (Nat.le_of_ble_eq_true rfl) dX3_init_22 (fun q9 H nq9 w cx => ?_)
  obtain ⟨G10, eG10⟩ : ∃ z, z = gNw G8 q9 12 20 := ⟨_, rfl⟩
  obtain ⟨M11, eM11⟩ : ∃ z, z = wZ M7 q9 := ⟨_, rfl⟩
  rw [← eG10] at cx
  rw [← eG10, ← eM11] at w
  have h := h q9 nq9 G10 eG10 M11 eM11
  have xG10 := ext_nw eG10 nq9
  have hKa0 := ext_K xG10 hLa0 hKa0
  have hLa0 := ext_L xG10 hLa0
  have hKq1 := ext_K xG10 hLq1 hKq1
  have hLq1 := ext_L xG10 hLq1
  have hKq5 := ext_K xG10 hLq5 hKq5
  have hLq5 := ext_L xG10 hLq5
  have hext := ext_tr hext xG10
  have hLq9 := nw_Lq eG10
  have hKq9 := nw_Kq eG10
  refine r_putRF (k := 4) cx w tyX3 tyX3_ok nmX3 hLa0 hKa0 (by decide) rfl wk_X3_init_X3 (by decide) rfl hini rfl (tyX3_ok 4 (by decide)) rfl rfl sr_2_4 (ln_2 _ _ (by decide)) hLq9 (by rw [hKq9]; rfl) (List.mem_of_getElem? (i := 7) rfl) dX3_init_24 (fun H locs w cx => ?_)
  obtain ⟨G12, eG12⟩ : ∃ z, z = gSt G10 a0 4 q9 := ⟨_, rfl⟩
  rw [← eG12] at w cx
  have h := h G12 eG12
  have xG12 := ext_st eG12
  have hKa0 := ext_K xG12 hLa0 hKa0
  have hLa0 := ext_L xG12 hLa0
  have hKq1 := ext_K xG12 hLq1 hKq1
  have hLq1 := ext_L xG12 hLq1
  have hKq5 := ext_K xG12 hLq5 hKq5
  have hLq5 := ext_L xG12 hLq5
  have hKq9 := ext_K xG12 hLq9 hKq9
  have hLq9 := ext_L xG12 hLq9
  have hext := ext_tr hext xG12
  refine lv_aload_n hx hb dX3_init_27 rfl (lv_at hl 0 rfl) ?_
  refine lv_bipush (v := (20 : Int32)) hx hb dX3_init_28 (by decide) ?_
  refine r_newI (N := 20) cx w (List.mem_of_getElem? (i := 4) rfl) (by decide) (by decide) (Nat.le_of_ble_eq_true rfl) (Nat.le_of_ble_eq_true rfl) (Nat.le_of_ble_eq_true rfl) dX3_init_30 (fun q13 H nq13 w cx => ?_)
  obtain ⟨G14, eG14⟩ : ∃ z, z = gNw G12 q13 12 20 := ⟨_, rfl⟩
  obtain ⟨M15, eM15⟩ : ∃ z, z = wZ M11 q13 := ⟨_, rfl⟩
  rw [← eG14] at cx
  rw [← eG14, ← eM15] at w
  have h := h q13 nq13 G14 eG14 M15 eM15
  have xG14 := ext_nw eG14 nq13
  have hKa0 := ext_K xG14 hLa0 hKa0
  have hLa0 := ext_L xG14 hLa0
  have hKq1 := ext_K xG14 hLq1 hKq1
  have hLq1 := ext_L xG14 hLq1
  have hKq5 := ext_K xG14 hLq5 hKq5
  have hLq5 := ext_L xG14 hLq5
  have hKq9 := ext_K xG14 hLq9 hKq9
  have hLq9 := ext_L xG14 hLq9
  have hext := ext_tr hext xG14
  have hLq13 := nw_Lq eG14
  have hKq13 := nw_Kq eG14
  refine r_putRF (k := 5) cx w tyX3 tyX3_ok nmX3 hLa0 hKa0 (by decide) rfl wk_X3_init_X3 (by decide) rfl hini rfl (tyX3_ok 5 (by decide)) rfl rfl sr_2_5 (ln_2 _ _ (by decide)) hLq13 (by rw [hKq13]; rfl) (List.mem_of_getElem? (i := 8) rfl) dX3_init_32 (fun H locs w cx => ?_)
  obtain ⟨G16, eG16⟩ : ∃ z, z = gSt G14 a0 5 q13 := ⟨_, rfl⟩
  rw [← eG16] at w cx
  have h := h G16 eG16
  have xG16 := ext_st eG16
  have hKa0 := ext_K xG16 hLa0 hKa0
  have hLa0 := ext_L xG16 hLa0
  have hKq1 := ext_K xG16 hLq1 hKq1
  have hLq1 := ext_L xG16 hLq1
  have hKq5 := ext_K xG16 hLq5 hKq5
  have hLq5 := ext_L xG16 hLq5
  have hKq9 := ext_K xG16 hLq9 hKq9
  have hLq9 := ext_L xG16 hLq9
  have hKq13 := ext_K xG16 hLq13 hKq13
  have hLq13 := ext_L xG16 hLq13
  have hext := ext_tr hext xG16
  refine lv_aload_n hx hb dX3_init_35 rfl (lv_at hl 0 rfl) ?_
  refine lv_bipush (v := (20 : Int32)) hx hb dX3_init_36 (by decide) ?_
  refine r_newI (N := 20) cx w (List.mem_of_getElem? (i := 4) rfl) (by decide) (by decide) (Nat.le_of_ble_eq_true rfl) (Nat.le_of_ble_eq_true rfl) (Nat.le_of_ble_eq_true rfl) dX3_init_38 (fun q17 H nq17 w cx => ?_)
  obtain ⟨G18, eG18⟩ : ∃ z, z = gNw G16 q17 12 20 := ⟨_, rfl⟩
  obtain ⟨M19, eM19⟩ : ∃ z, z = wZ M15 q17 := ⟨_, rfl⟩
  rw [← eG18] at cx
  rw [← eG18, ← eM19] at w
  have h := h q17 nq17 G18 eG18 M19 eM19
  have xG18 := ext_nw eG18 nq17
  have hKa0 := ext_K xG18 hLa0 hKa0
  have hLa0 := ext_L xG18 hLa0
  have hKq1 := ext_K xG18 hLq1 hKq1
  have hLq1 := ext_L xG18 hLq1
  have hKq5 := ext_K xG18 hLq5 hKq5
  have hLq5 := ext_L xG18 hLq5
  have hKq9 := ext_K xG18 hLq9 hKq9
  have hLq9 := ext_L xG18 hLq9
  have hKq13 := ext_K xG18 hLq13 hKq13
  have hLq13 := ext_L xG18 hLq13
  have hext := ext_tr hext xG18
  have hLq17 := nw_Lq eG18
  have hKq17 := nw_Kq eG18
  refine r_putRF (k := 6) cx w tyX3 tyX3_ok nmX3 hLa0 hKa0 (by decide) rfl wk_X3_init_X3 (by decide) rfl hini rfl (tyX3_ok 6 (by decide)) rfl rfl sr_2_6 (ln_2 _ _ (by decide)) hLq17 (by rw [hKq17]; rfl) (List.mem_of_getElem? (i := 9) rfl) dX3_init_40 (fun H locs w cx => ?_)
  obtain ⟨G20, eG20⟩ : ∃ z, z = gSt G18 a0 6 q17 := ⟨_, rfl⟩
  rw [← eG20] at w cx
  have h := h G20 eG20
  have xG20 := ext_st eG20
  have hKa0 := ext_K xG20 hLa0 hKa0
  have hLa0 := ext_L xG20 hLa0
  have hKq1 := ext_K xG20 hLq1 hKq1
  have hLq1 := ext_L xG20 hLq1
  have hKq5 := ext_K xG20 hLq5 hKq5
  have hLq5 := ext_L xG20 hLq5
  have hKq9 := ext_K xG20 hLq9 hKq9
  have hLq9 := ext_L xG20 hLq9
  have hKq13 := ext_K xG20 hLq13 hKq13
  have hLq13 := ext_L xG20 hLq13
  have hKq17 := ext_K xG20 hLq17 hKq17
  have hLq17 := ext_L xG20 hLq17
  have hext := ext_tr hext xG20
  refine lv_aload_n hx hb dX3_init_43 rfl (lv_at hl 0 rfl) ?_
  refine lv_bipush (v := (20 : Int32)) hx hb dX3_init_44 (by decide) ?_
  refine r_newI (N := 20) cx w (List.mem_of_getElem? (i := 4) rfl) (by decide) (by decide) (Nat.le_of_ble_eq_true rfl) (Nat.le_of_ble_eq_true rfl) (Nat.le_of_ble_eq_true rfl) dX3_init_46 (fun q21 H nq21 w cx => ?_)
  obtain ⟨G22, eG22⟩ : ∃ z, z = gNw G20 q21 12 20 := ⟨_, rfl⟩
  obtain ⟨M23, eM23⟩ : ∃ z, z = wZ M19 q21 := ⟨_, rfl⟩
  rw [← eG22] at cx
  rw [← eG22, ← eM23] at w
  have h := h q21 nq21 G22 eG22 M23 eM23
  have xG22 := ext_nw eG22 nq21
  have hKa0 := ext_K xG22 hLa0 hKa0
  have hLa0 := ext_L xG22 hLa0
  have hKq1 := ext_K xG22 hLq1 hKq1
  have hLq1 := ext_L xG22 hLq1
  have hKq5 := ext_K xG22 hLq5 hKq5
  have hLq5 := ext_L xG22 hLq5
  have hKq9 := ext_K xG22 hLq9 hKq9
  have hLq9 := ext_L xG22 hLq9
  have hKq13 := ext_K xG22 hLq13 hKq13
  have hLq13 := ext_L xG22 hLq13
  have hKq17 := ext_K xG22 hLq17 hKq17
  have hLq17 := ext_L xG22 hLq17
  have hext := ext_tr hext xG22
  have hLq21 := nw_Lq eG22
  have hKq21 := nw_Kq eG22
  refine r_putRF (k := 7) cx w tyX3 tyX3_ok nmX3 hLa0 hKa0 (by decide) rfl wk_X3_init_X3 (by decide) rfl hini rfl (tyX3_ok 7 (by decide)) rfl rfl sr_2_7 (ln_2 _ _ (by decide)) hLq21 (by rw [hKq21]; rfl) (List.mem_of_getElem? (i := 10) rfl) dX3_init_48 (fun H locs w cx => ?_)
  obtain ⟨G24, eG24⟩ : ∃ z, z = gSt G22 a0 7 q21 := ⟨_, rfl⟩
  rw [← eG24] at w cx
  have h := h G24 eG24
  have xG24 := ext_st eG24
  have hKa0 := ext_K xG24 hLa0 hKa0
  have hLa0 := ext_L xG24 hLa0
  have hKq1 := ext_K xG24 hLq1 hKq1
  have hLq1 := ext_L xG24 hLq1
  have hKq5 := ext_K xG24 hLq5 hKq5
  have hLq5 := ext_L xG24 hLq5
  have hKq9 := ext_K xG24 hLq9 hKq9
  have hLq9 := ext_L xG24 hLq9
  have hKq13 := ext_K xG24 hLq13 hKq13
  have hLq13 := ext_L xG24 hLq13
  have hKq17 := ext_K xG24 hLq17 hKq17
  have hLq17 := ext_L xG24 hLq17
  have hKq21 := ext_K xG24 hLq21 hKq21
  have hLq21 := ext_L xG24 hLq21
  have hext := ext_tr hext xG24
  refine lv_aload_n hx hb dX3_init_51 rfl (lv_at hl 0 rfl) ?_
  refine lv_sipush (v := (400 : Int32)) hx hb dX3_init_52 (by decide) ?_
  refine r_newI (N := 400) cx w (List.mem_of_getElem? (i := 4) rfl) (by decide) (by decide) (Nat.le_of_ble_eq_true rfl) (Nat.le_of_ble_eq_true rfl) (Nat.le_of_ble_eq_true rfl) dX3_init_55 (fun q25 H nq25 w cx => ?_)
  obtain ⟨G26, eG26⟩ : ∃ z, z = gNw G24 q25 12 400 := ⟨_, rfl⟩
  obtain ⟨M27, eM27⟩ : ∃ z, z = wZ M23 q25 := ⟨_, rfl⟩
  rw [← eG26] at cx
  rw [← eG26, ← eM27] at w
  have h := h q25 nq25 G26 eG26 M27 eM27
  have xG26 := ext_nw eG26 nq25
  have hKa0 := ext_K xG26 hLa0 hKa0
  have hLa0 := ext_L xG26 hLa0
  have hKq1 := ext_K xG26 hLq1 hKq1
  have hLq1 := ext_L xG26 hLq1
  have hKq5 := ext_K xG26 hLq5 hKq5
  have hLq5 := ext_L xG26 hLq5
  have hKq9 := ext_K xG26 hLq9 hKq9
  have hLq9 := ext_L xG26 hLq9
  have hKq13 := ext_K xG26 hLq13 hKq13
  have hLq13 := ext_L xG26 hLq13
  have hKq17 := ext_K xG26 hLq17 hKq17
  have hLq17 := ext_L xG26 hLq17
  have hKq21 := ext_K xG26 hLq21 hKq21
  have hLq21 := ext_L xG26 hLq21
  have hext := ext_tr hext xG26
  have hLq25 := nw_Lq eG26
  have hKq25 := nw_Kq eG26
  refine r_putRF (k := 9) cx w tyX3 tyX3_ok nmX3 hLa0 hKa0 (by decide) rfl wk_X3_init_X3 (by decide) rfl hini rfl (tyX3_ok 9 (by decide)) rfl rfl sr_2_9 (ln_2 _ _ (by decide)) hLq25 (by rw [hKq25]; rfl) (List.mem_of_getElem? (i := 11) rfl) dX3_init_57 (fun H locs w cx => ?_)
  obtain ⟨G28, eG28⟩ : ∃ z, z = gSt G26 a0 9 q25 := ⟨_, rfl⟩
  rw [← eG28] at w cx
  have h := h G28 eG28
  have xG28 := ext_st eG28
  have hKa0 := ext_K xG28 hLa0 hKa0
  have hLa0 := ext_L xG28 hLa0
  have hKq1 := ext_K xG28 hLq1 hKq1
  have hLq1 := ext_L xG28 hLq1
  have hKq5 := ext_K xG28 hLq5 hKq5
  have hLq5 := ext_L xG28 hLq5
  have hKq9 := ext_K xG28 hLq9 hKq9
  have hLq9 := ext_L xG28 hLq9
  have hKq13 := ext_K xG28 hLq13 hKq13
  have hLq13 := ext_L xG28 hLq13
  have hKq17 := ext_K xG28 hLq17 hKq17
  have hLq17 := ext_L xG28 hLq17
  have hKq21 := ext_K xG28 hLq21 hKq21
  have hLq21 := ext_L xG28 hLq21
  have hKq25 := ext_K xG28 hLq25 hKq25
  have hLq25 := ext_L xG28 hLq25
  have hext := ext_tr hext xG28
  refine lv_aload_n hx hb dX3_init_60 rfl (lv_at hl 0 rfl) ?_
  refine lv_sipush (v := (400 : Int32)) hx hb dX3_init_61 (by decide) ?_
  refine r_newI (N := 400) cx w (List.mem_of_getElem? (i := 4) rfl) (by decide) (by decide) (Nat.le_of_ble_eq_true rfl) (Nat.le_of_ble_eq_true rfl) (Nat.le_of_ble_eq_true rfl) dX3_init_64 (fun q29 H nq29 w cx => ?_)
  obtain ⟨G30, eG30⟩ : ∃ z, z = gNw G28 q29 12 400 := ⟨_, rfl⟩
  obtain ⟨M31, eM31⟩ : ∃ z, z = wZ M27 q29 := ⟨_, rfl⟩
  rw [← eG30] at cx
  rw [← eG30, ← eM31] at w
  have h := h q29 nq29 G30 eG30 M31 eM31
  have xG30 := ext_nw eG30 nq29
  have hKa0 := ext_K xG30 hLa0 hKa0
  have hLa0 := ext_L xG30 hLa0
  have hKq1 := ext_K xG30 hLq1 hKq1
  have hLq1 := ext_L xG30 hLq1
  have hKq5 := ext_K xG30 hLq5 hKq5
  have hLq5 := ext_L xG30 hLq5
  have hKq9 := ext_K xG30 hLq9 hKq9
  have hLq9 := ext_L xG30 hLq9
  have hKq13 := ext_K xG30 hLq13 hKq13
  have hLq13 := ext_L xG30 hLq13
  have hKq17 := ext_K xG30 hLq17 hKq17
  have hLq17 := ext_L xG30 hLq17
  have hKq21 := ext_K xG30 hLq21 hKq21
  have hLq21 := ext_L xG30 hLq21
  have hKq25 := ext_K xG30 hLq25 hKq25
  have hLq25 := ext_L xG30 hLq25
  have hext := ext_tr hext xG30
  have hLq29 := nw_Lq eG30
  have hKq29 := nw_Kq eG30
  refine r_putRF (k := 10) cx w tyX3 tyX3_ok nmX3 hLa0 hKa0 (by decide) rfl wk_X3_init_X3 (by decide) rfl hini rfl (tyX3_ok 10 (by decide)) rfl rfl sr_2_10 (ln_2 _ _ (by decide)) hLq29 (by rw [hKq29]; rfl) (List.mem_of_getElem? (i := 12) rfl) dX3_init_66 (fun H locs w cx => ?_)
  obtain ⟨G32, eG32⟩ : ∃ z, z = gSt G30 a0 10 q29 := ⟨_, rfl⟩
  rw [← eG32] at w cx
  have h := h G32 eG32
  have xG32 := ext_st eG32
  have hKa0 := ext_K xG32 hLa0 hKa0
  have hLa0 := ext_L xG32 hLa0
  have hKq1 := ext_K xG32 hLq1 hKq1
  have hLq1 := ext_L xG32 hLq1
  have hKq5 := ext_K xG32 hLq5 hKq5
  have hLq5 := ext_L xG32 hLq5
  have hKq9 := ext_K xG32 hLq9 hKq9
  have hLq9 := ext_L xG32 hLq9
  have hKq13 := ext_K xG32 hLq13 hKq13
  have hLq13 := ext_L xG32 hLq13
  have hKq17 := ext_K xG32 hLq17 hKq17
  have hLq17 := ext_L xG32 hLq17
  have hKq21 := ext_K xG32 hLq21 hKq21
  have hLq21 := ext_L xG32 hLq21
  have hKq25 := ext_K xG32 hLq25 hKq25
  have hLq25 := ext_L xG32 hLq25
  have hKq29 := ext_K xG32 hLq29 hKq29
  have hLq29 := ext_L xG32 hLq29
  have hext := ext_tr hext xG32
  exact r_vretN cx w h hext (Nat.le_of_ble_eq_true rfl) (Nat.le_of_ble_eq_true rfl) dX3_init_69
theorem wk_X0_init_X0 : ∀ w ∈ wsX00, w ∈ wsX0_init := by decide +kernel
abbrev rnX0_init : Room := { frames := 1, cells := 1, slots := 512, locals := 60 }
def n_X0_init (G : gS) (M : mS) (a0 : Nat) (post : gS → mS → Prop) : Prop := ∀ q1, q1 ∉ gL G → ∀ G2, G2 = gNw G q1 12 512 → ∀ M3, M3 = wZ M q1 → (∀ G4, G4 = gSt G2 a0 8 q1 → (post G4 M3))
set_option maxHeartbeats 4000000 in
set_option maxRecDepth 100000 in
theorem kn_X0_init {l : Launch} {D : va_G} {cy : cyS} {G : gS} {M : mS} {post : gS → mS → Prop} {a0 : Nat} (hG : wt G) (hLa0 : a0 ∈ gL G) (hKa0 : gK G a0 = 0) (h : n_X0_init G M a0 post) : ctN l yX0_init wsX0_init rnX0_init D cy G M [.ref a0] 1 512 post := by
  unfold n_X0_init at h
  refine ctN_of (cc := cX0_init) (nL := 1) (lv := [(0, .ref a0)]) hG (by decide) rfl (Nat.le_of_ble_eq_true rfl) rfl ?_
  intro p e s m args below meth c sz ls hini cx w hl
  obtain ⟨hx, hb, hml, hown, hts, hr, hlocks, hK, hA, -, hsx⟩ := id cx
  have hini : meth.name = "<init>" := hini
  have hext := ext_rf (G := G)
  refine lv_aload_n hx hb dX0_init_0 rfl (lv_at hl 0 rfl) ?_
  refine W.objInit hx hb hown (hts (.methodLink RX0 3 objectInit) (List.mem_of_getElem? (i := 1) rfl)) (hts (.instanceMethod objectInit) (List.mem_of_getElem? (i := 2) rfl)) (hts _ (List.mem_of_getElem? (i := 3) rfl)) rfl (by rw [hml]; exact hl.1) rfl dX0_init_1 (Nat.le_of_ble_eq_true rfl) (Nat.le_of_ble_eq_true rfl) ?_
  refine W.eq (g2 := F0 m 4 ls []) rfl ?_
  refine lv_aload_n hx hb dX0_init_4 rfl (lv_at hl 0 rfl) ?_
  refine lv_sipush (v := (512 : Int32)) hx hb dX0_init_5 (by decide) ?_
  refine r_newI (N := 512) cx w (List.mem_of_getElem? (i := 4) rfl) (by decide) (by decide) (Nat.le_of_ble_eq_true rfl) (Nat.le_of_ble_eq_true rfl) (Nat.le_of_ble_eq_true rfl) dX0_init_8 (fun q1 H nq1 w cx => ?_)
  obtain ⟨G2, eG2⟩ : ∃ z, z = gNw G q1 12 512 := ⟨_, rfl⟩
  obtain ⟨M3, eM3⟩ : ∃ z, z = wZ M q1 := ⟨_, rfl⟩
  rw [← eG2] at cx
  rw [← eG2, ← eM3] at w
  have h := h q1 nq1 G2 eG2 M3 eM3
  have xG2 := ext_nw eG2 nq1
  have hKa0 := ext_K xG2 hLa0 hKa0
  have hLa0 := ext_L xG2 hLa0
  have hext := ext_tr hext xG2
  have hLq1 := nw_Lq eG2
  have hKq1 := nw_Kq eG2
  refine r_putRF (k := 8) cx w tyX0 tyX0_ok nmX0 hLa0 hKa0 (by decide) rfl wk_X0_init_X0 (by decide) rfl hini rfl (tyX0_ok 8 (by decide)) rfl rfl sr_0_8 (ln_0 _ _ (by decide)) hLq1 (by rw [hKq1]; rfl) (List.mem_of_getElem? (i := 5) rfl) dX0_init_10 (fun H locs w cx => ?_)
  obtain ⟨G4, eG4⟩ : ∃ z, z = gSt G2 a0 8 q1 := ⟨_, rfl⟩
  rw [← eG4] at w cx
  have h := h G4 eG4
  have xG4 := ext_st eG4
  have hKa0 := ext_K xG4 hLa0 hKa0
  have hLa0 := ext_L xG4 hLa0
  have hKq1 := ext_K xG4 hLq1 hKq1
  have hLq1 := ext_L xG4 hLq1
  have hext := ext_tr hext xG4
  exact r_vretN cx w h hext (Nat.le_of_ble_eq_true rfl) (Nat.le_of_ble_eq_true rfl) dX0_init_13
theorem wk_X8_init_X0 : ∀ w ∈ wsX00, w ∈ wsX8_init := by decide +kernel
theorem wk_X8_init_X8 : ∀ w ∈ wsX80, w ∈ wsX8_init := by decide +kernel
abbrev rnX8_init : Room := { frames := 2, cells := 16, slots := 7298, locals := 80 }
def n_X8_init (G : gS) (M : mS) (a0 : Nat) (post : gS → mS → Prop) : Prop := ∀ q1, q1 ∉ gL G → ∀ G2, G2 = gNw G q1 12 4096 → ∀ M3, M3 = wZ M q1 → (∀ G4, G4 = gSt G2 a0 0 q1 → (∀ q5, q5 ∉ gL G4 → ∀ G6, G6 = gNw G4 q5 12 64 → ∀ M7, M7 = wZ M3 q5 → (∀ G8, G8 = gSt G6 a0 1 q5 → (∀ q9, q9 ∉ gL G8 → ∀ G10, G10 = gNw G8 q9 12 6 → ∀ M11, M11 = wZ M7 q9 → (∀ G12, G12 = gSt G10 a0 2 q9 → (∀ q13, q13 ∉ gL G12 → ∀ G14, G14 = gNw G12 q13 14 6 → ∀ M15, M15 = wZ M11 q13 → (∀ G16, G16 = gSt G14 a0 3 q13 → (∃ q17, gP G16 a0 3 = some q17 ∧ (∀ q18, q18 ∉ gL G16 → ∀ G19, G19 = gNw G16 q18 0 0 → ∀ M20, M20 = wZ M15 q18 → (n_X0_init G19 M20 q18 (fun G21 M22 => vp_in (0 : Int32) (gN G21 q17) ∧ ∀ G24, G24 = gSt G21 q17 (Int32.toNatClampNeg (0 : Int32)) q18 → (∃ q25, gP G24 a0 3 = some q25 ∧ (∀ q26, q26 ∉ gL G24 → ∀ G27, G27 = gNw G24 q26 0 0 → ∀ M28, M28 = wZ M22 q26 → (n_X0_init G27 M28 q26 (fun G29 M30 => vp_in (1 : Int32) (gN G29 q25) ∧ ∀ G32, G32 = gSt G29 q25 (Int32.toNatClampNeg (1 : Int32)) q26 → (∃ q33, gP G32 a0 3 = some q33 ∧ (∀ q34, q34 ∉ gL G32 → ∀ G35, G35 = gNw G32 q34 0 0 → ∀ M36, M36 = wZ M30 q34 → (n_X0_init G35 M36 q34 (fun G37 M38 => vp_in (2 : Int32) (gN G37 q33) ∧ ∀ G40, G40 = gSt G37 q33 (Int32.toNatClampNeg (2 : Int32)) q34 → (∃ q41, gP G40 a0 3 = some q41 ∧ (∀ q42, q42 ∉ gL G40 → ∀ G43, G43 = gNw G40 q42 0 0 → ∀ M44, M44 = wZ M38 q42 → (n_X0_init G43 M44 q42 (fun G45 M46 => vp_in (3 : Int32) (gN G45 q41) ∧ ∀ G48, G48 = gSt G45 q41 (Int32.toNatClampNeg (3 : Int32)) q42 → (∃ q49, gP G48 a0 3 = some q49 ∧ (∀ q50, q50 ∉ gL G48 → ∀ G51, G51 = gNw G48 q50 0 0 → ∀ M52, M52 = wZ M46 q50 → (n_X0_init G51 M52 q50 (fun G53 M54 => vp_in (4 : Int32) (gN G53 q49) ∧ ∀ G56, G56 = gSt G53 q49 (Int32.toNatClampNeg (4 : Int32)) q50 → (∃ q57, gP G56 a0 3 = some q57 ∧ (∀ q58, q58 ∉ gL G56 → ∀ G59, G59 = gNw G56 q58 0 0 → ∀ M60, M60 = wZ M54 q58 → (n_X0_init G59 M60 q58 (fun G61 M62 => vp_in (5 : Int32) (gN G61 q57) ∧ ∀ G64, G64 = gSt G61 q57 (Int32.toNatClampNeg (5 : Int32)) q58 → (∃ q65, gP G64 a0 2 = some q65 ∧ (vp_in (0 : Int32) (gN G64 q65) ∧ ∀ M67, M67 = wI M62 q65 (Int32.toNatClampNeg (0 : Int32)) (4096 : Int32) → (post G64 M67))))))))))))))))))))))))))))))))))
set_option maxHeartbeats 4000000 in
set_option maxRecDepth 100000 in
theorem kn_X8_init {l : Launch} {D : va_G} {cy : cyS} {G : gS} {M : mS} {post : gS → mS → Prop} {a0 : Nat} (hG : wt G) (hLa0 : a0 ∈ gL G) (hKa0 : gK G a0 = 7) (h : n_X8_init G M a0 post) : ctN l yX8_init wsX8_init rnX8_init D cy G M [.ref a0] 16 7298 post := by
  unfold n_X8_init at h
  refine ctN_of (cc := cX8_init) (nL := 2) (lv := [(0, .ref a0)]) hG (by decide) rfl (Nat.le_of_ble_eq_true rfl) rfl ?_
  intro p e s m args below meth c sz ls hini cx w hl
  obtain ⟨hx, hb, hml, hown, hts, hr, hlocks, hK, hA, -, hsx⟩ := id cx
  have hini : meth.name = "<init>" := hini
  have hext := ext_rf (G := G)
  refine lv_aload_n hx hb dX8_init_0 rfl (lv_at hl 0 rfl) ?_
  refine W.objInit hx hb hown (hts (.methodLink RX8 3 objectInit) (List.mem_of_getElem? (i := 1) rfl)) (hts (.instanceMethod objectInit) (List.mem_of_getElem? (i := 2) rfl)) (hts _ (List.mem_of_getElem? (i := 3) rfl)) rfl (by rw [hml]; exact hl.1) rfl dX8_init_1 (Nat.le_of_ble_eq_true rfl) (Nat.le_of_ble_eq_true rfl) ?_
  refine W.eq (g2 := F0 m 4 ls []) rfl ?_
  refine lv_aload_n hx hb dX8_init_4 rfl (lv_at hl 0 rfl) ?_
  refine lv_sipush (v := (4096 : Int32)) hx hb dX8_init_5 (by decide) ?_
  refine r_newI (N := 4096) cx w (List.mem_of_getElem? (i := 4) rfl) (by decide) (by decide) (Nat.le_of_ble_eq_true rfl) (Nat.le_of_ble_eq_true rfl) (Nat.le_of_ble_eq_true rfl) dX8_init_8 (fun q1 H nq1 w cx => ?_)
  obtain ⟨G2, eG2⟩ : ∃ z, z = gNw G q1 12 4096 := ⟨_, rfl⟩
  obtain ⟨M3, eM3⟩ : ∃ z, z = wZ M q1 := ⟨_, rfl⟩
  rw [← eG2] at cx
  rw [← eG2, ← eM3] at w
  have h := h q1 nq1 G2 eG2 M3 eM3
  have xG2 := ext_nw eG2 nq1
  have hKa0 := ext_K xG2 hLa0 hKa0
  have hLa0 := ext_L xG2 hLa0
  have hext := ext_tr hext xG2
  have hLq1 := nw_Lq eG2
  have hKq1 := nw_Kq eG2
  refine r_putRF (k := 0) cx w tyX8 tyX8_ok nmX8 hLa0 hKa0 (by decide) rfl wk_X8_init_X8 (by decide) rfl hini rfl (tyX8_ok 0 (by decide)) rfl rfl sr_7_0 (ln_7 _ _ (by decide)) hLq1 (by rw [hKq1]; rfl) (List.mem_of_getElem? (i := 5) rfl) dX8_init_10 (fun H locs w cx => ?_)
  obtain ⟨G4, eG4⟩ : ∃ z, z = gSt G2 a0 0 q1 := ⟨_, rfl⟩
  rw [← eG4] at w cx
  have h := h G4 eG4
  have xG4 := ext_st eG4
  have hKa0 := ext_K xG4 hLa0 hKa0
  have hLa0 := ext_L xG4 hLa0
  have hKq1 := ext_K xG4 hLq1 hKq1
  have hLq1 := ext_L xG4 hLq1
  have hext := ext_tr hext xG4
  refine lv_aload_n hx hb dX8_init_13 rfl (lv_at hl 0 rfl) ?_
  refine lv_bipush (v := (64 : Int32)) hx hb dX8_init_14 (by decide) ?_
  refine r_newI (N := 64) cx w (List.mem_of_getElem? (i := 4) rfl) (by decide) (by decide) (Nat.le_of_ble_eq_true rfl) (Nat.le_of_ble_eq_true rfl) (Nat.le_of_ble_eq_true rfl) dX8_init_16 (fun q5 H nq5 w cx => ?_)
  obtain ⟨G6, eG6⟩ : ∃ z, z = gNw G4 q5 12 64 := ⟨_, rfl⟩
  obtain ⟨M7, eM7⟩ : ∃ z, z = wZ M3 q5 := ⟨_, rfl⟩
  rw [← eG6] at cx
  rw [← eG6, ← eM7] at w
  have h := h q5 nq5 G6 eG6 M7 eM7
  have xG6 := ext_nw eG6 nq5
  have hKa0 := ext_K xG6 hLa0 hKa0
  have hLa0 := ext_L xG6 hLa0
  have hKq1 := ext_K xG6 hLq1 hKq1
  have hLq1 := ext_L xG6 hLq1
  have hext := ext_tr hext xG6
  have hLq5 := nw_Lq eG6
  have hKq5 := nw_Kq eG6
  refine r_putRF (k := 1) cx w tyX8 tyX8_ok nmX8 hLa0 hKa0 (by decide) rfl wk_X8_init_X8 (by decide) rfl hini rfl (tyX8_ok 1 (by decide)) rfl rfl sr_7_1 (ln_7 _ _ (by decide)) hLq5 (by rw [hKq5]; rfl) (List.mem_of_getElem? (i := 6) rfl) dX8_init_18 (fun H locs w cx => ?_)
  obtain ⟨G8, eG8⟩ : ∃ z, z = gSt G6 a0 1 q5 := ⟨_, rfl⟩
  rw [← eG8] at w cx
  have h := h G8 eG8
  have xG8 := ext_st eG8
  have hKa0 := ext_K xG8 hLa0 hKa0
  have hLa0 := ext_L xG8 hLa0
  have hKq1 := ext_K xG8 hLq1 hKq1
  have hLq1 := ext_L xG8 hLq1
  have hKq5 := ext_K xG8 hLq5 hKq5
  have hLq5 := ext_L xG8 hLq5
  have hext := ext_tr hext xG8
  refine lv_aload_n hx hb dX8_init_21 rfl (lv_at hl 0 rfl) ?_
  refine lv_bipush (v := (6 : Int32)) hx hb dX8_init_22 (by decide) ?_
  refine r_newI (N := 6) cx w (List.mem_of_getElem? (i := 4) rfl) (by decide) (by decide) (Nat.le_of_ble_eq_true rfl) (Nat.le_of_ble_eq_true rfl) (Nat.le_of_ble_eq_true rfl) dX8_init_24 (fun q9 H nq9 w cx => ?_)
  obtain ⟨G10, eG10⟩ : ∃ z, z = gNw G8 q9 12 6 := ⟨_, rfl⟩
  obtain ⟨M11, eM11⟩ : ∃ z, z = wZ M7 q9 := ⟨_, rfl⟩
  rw [← eG10] at cx
  rw [← eG10, ← eM11] at w
  have h := h q9 nq9 G10 eG10 M11 eM11
  have xG10 := ext_nw eG10 nq9
  have hKa0 := ext_K xG10 hLa0 hKa0
  have hLa0 := ext_L xG10 hLa0
  have hKq1 := ext_K xG10 hLq1 hKq1
  have hLq1 := ext_L xG10 hLq1
  have hKq5 := ext_K xG10 hLq5 hKq5
  have hLq5 := ext_L xG10 hLq5
  have hext := ext_tr hext xG10
  have hLq9 := nw_Lq eG10
  have hKq9 := nw_Kq eG10
  refine r_putRF (k := 2) cx w tyX8 tyX8_ok nmX8 hLa0 hKa0 (by decide) rfl wk_X8_init_X8 (by decide) rfl hini rfl (tyX8_ok 2 (by decide)) rfl rfl sr_7_2 (ln_7 _ _ (by decide)) hLq9 (by rw [hKq9]; rfl) (List.mem_of_getElem? (i := 7) rfl) dX8_init_26 (fun H locs w cx => ?_)
  obtain ⟨G12, eG12⟩ : ∃ z, z = gSt G10 a0 2 q9 := ⟨_, rfl⟩
  rw [← eG12] at w cx
  have h := h G12 eG12
  have xG12 := ext_st eG12
  have hKa0 := ext_K xG12 hLa0 hKa0
  have hLa0 := ext_L xG12 hLa0
  have hKq1 := ext_K xG12 hLq1 hKq1
  have hLq1 := ext_L xG12 hLq1
  have hKq5 := ext_K xG12 hLq5 hKq5
  have hLq5 := ext_L xG12 hLq5
  have hKq9 := ext_K xG12 hLq9 hKq9
  have hLq9 := ext_L xG12 hLq9
  have hext := ext_tr hext xG12
  refine lv_aload_n hx hb dX8_init_29 rfl (lv_at hl 0 rfl) ?_
  refine lv_bipush (v := (6 : Int32)) hx hb dX8_init_30 (by decide) ?_
  refine r_newR (N := 6) cx w (List.mem_of_getElem? (i := 8) rfl) (by decide) (by decide) (Nat.le_of_ble_eq_true rfl) (Nat.le_of_ble_eq_true rfl) (Nat.le_of_ble_eq_true rfl) dX8_init_32 (fun q13 H nq13 w cx => ?_)
  obtain ⟨G14, eG14⟩ : ∃ z, z = gNw G12 q13 14 6 := ⟨_, rfl⟩
  obtain ⟨M15, eM15⟩ : ∃ z, z = wZ M11 q13 := ⟨_, rfl⟩
  rw [← eG14] at cx
  rw [← eG14, ← eM15] at w
  have h := h q13 nq13 G14 eG14 M15 eM15
  have xG14 := ext_nw eG14 nq13
  have hKa0 := ext_K xG14 hLa0 hKa0
  have hLa0 := ext_L xG14 hLa0
  have hKq1 := ext_K xG14 hLq1 hKq1
  have hLq1 := ext_L xG14 hLq1
  have hKq5 := ext_K xG14 hLq5 hKq5
  have hLq5 := ext_L xG14 hLq5
  have hKq9 := ext_K xG14 hLq9 hKq9
  have hLq9 := ext_L xG14 hLq9
  have hext := ext_tr hext xG14
  have hLq13 := nw_Lq eG14
  have hKq13 := nw_Kq eG14
  refine r_putRF (k := 3) cx w tyX8 tyX8_ok nmX8 hLa0 hKa0 (by decide) rfl wk_X8_init_X8 (by decide) rfl hini rfl (tyX8_ok 3 (by decide)) rfl rfl sr_7_3 (ln_7 _ _ (by decide)) hLq13 (by rw [hKq13]; rfl) (List.mem_of_getElem? (i := 9) rfl) dX8_init_35 (fun H locs w cx => ?_)
  obtain ⟨G16, eG16⟩ : ∃ z, z = gSt G14 a0 3 q13 := ⟨_, rfl⟩
  rw [← eG16] at w cx
  have h := h G16 eG16
  have xG16 := ext_st eG16
  have hKa0 := ext_K xG16 hLa0 hKa0
  have hLa0 := ext_L xG16 hLa0
  have hKq1 := ext_K xG16 hLq1 hKq1
  have hLq1 := ext_L xG16 hLq1
  have hKq5 := ext_K xG16 hLq5 hKq5
  have hLq5 := ext_L xG16 hLq5
  have hKq9 := ext_K xG16 hLq9 hKq9
  have hLq9 := ext_L xG16 hLq9
  have hKq13 := ext_K xG16 hLq13 hKq13
  have hLq13 := ext_L xG16 hLq13
  have hext := ext_tr hext xG16
  refine lv_iconst (v := (0 : Int32)) hx hb dX8_init_38 (by decide) ?_
  refine lv_istore_n (lv' := [(1, .int ((0 : Int32))), (0, .ref a0)]) hx hb dX8_init_39 rfl hl (by decide) rfl (fun ls hl => ?_)
  refine lv_iload_n hx hb dX8_init_40 rfl (lv_at hl 0 rfl) ?_
  refine lv_bipush (v := (6 : Int32)) hx hb dX8_init_41 (by decide) ?_
  refine lv_icmp_ge (tgt := 65) hx hb dX8_init_43 (by decide) (fun k => absurd k (by decide)) (fun _ => ?_)
  refine lv_aload_n hx hb dX8_init_46 rfl (lv_at hl 1 rfl) ?_
  obtain ⟨q17, eq17, h⟩ := h
  obtain ⟨hLq17, hKq17⟩ := wt_q (cX_wt cx) hLa0 hKa0 eq17
  have hKq17 : gK G16 q17 = 14 := hKq17
  refine r_getR (k := 3) cx w hLa0 hKa0 (by decide) rfl wk_X8_init_X8 (by decide) rfl eq17 (List.mem_of_getElem? (i := 9) rfl) dX8_init_47 ?_
  refine lv_iload_n hx hb dX8_init_50 rfl (lv_at hl 0 rfl) ?_
  refine r_newO cx w tyX0 tyX0_ok rfl (by decide) wk_X8_init_X0 (List.mem_of_getElem? (i := 8) rfl) (List.mem_of_getElem? (i := 10) rfl) (List.mem_of_getElem? (i := 11) rfl) df_0 (Nat.le_of_ble_eq_true rfl) (Nat.le_of_ble_eq_true rfl) dX8_init_51 (fun q18 H nq18 w cx => ?_)
  obtain ⟨G19, eG19⟩ : ∃ z, z = gNw G16 q18 0 0 := ⟨_, rfl⟩
  obtain ⟨M20, eM20⟩ : ∃ z, z = wZ M15 q18 := ⟨_, rfl⟩
  rw [← eG19] at cx
  rw [← eG19, ← eM20] at w
  have h := h q18 nq18 G19 eG19 M20 eM20
  have xG19 := ext_nw eG19 nq18
  have hKa0 := ext_K xG19 hLa0 hKa0
  have hLa0 := ext_L xG19 hLa0
  have hKq1 := ext_K xG19 hLq1 hKq1
  have hLq1 := ext_L xG19 hLq1
  have hKq5 := ext_K xG19 hLq5 hKq5
  have hLq5 := ext_L xG19 hLq5
  have hKq9 := ext_K xG19 hLq9 hKq9
  have hLq9 := ext_L xG19 hLq9
  have hKq13 := ext_K xG19 hLq13 hKq13
  have hLq13 := ext_L xG19 hLq13
  have hKq17 := ext_K xG19 hLq17 hKq17
  have hLq17 := ext_L xG19 hLq17
  have hext := ext_tr hext xG19
  have hLq18 := nw_Lq eG19
  have hKq18 := nw_Kq eG19
  refine lv_dup hx hb dX8_init_54 rfl ?_
  refine r_callNN (As := []) (rest := [.ref q18, .int ((0 : Int32)), .ref q17]) cx w ⟨Nat.le_of_ble_eq_true rfl, Nat.le_of_ble_eq_true rfl⟩ hl.1 (kn_X0_init (cX_wt cx) hLq18 hKq18 h) ⟨va_cnB 0 hts gX8_init_X0_init_n27 rfl rfl rfl (nwM cx (q := (RX8, 27, yX0_init, "FlagAnts")) (List.mem_of_getElem? (i := 4) rfl)) (hts _ (List.mem_of_getElem? (i := 11) rfl)) (by decide +kernel) ⟨Nat.le_of_ble_eq_true rfl, Nat.le_of_ble_eq_true rfl⟩, rfl, hts _ (List.mem_of_getElem? (i := 12) rfl)⟩ rfl rfl (Nat.le_of_ble_eq_true rfl) dX8_init_55 (fun G21 M22 H locs h xG21 cx w => ?_)
  have hKa0 := ext_K xG21 hLa0 hKa0
  have hLa0 := ext_L xG21 hLa0
  have hKq1 := ext_K xG21 hLq1 hKq1
  have hLq1 := ext_L xG21 hLq1
  have hKq5 := ext_K xG21 hLq5 hKq5
  have hLq5 := ext_L xG21 hLq5
  have hKq9 := ext_K xG21 hLq9 hKq9
  have hLq9 := ext_L xG21 hLq9
  have hKq13 := ext_K xG21 hLq13 hKq13
  have hLq13 := ext_L xG21 hLq13
  have hKq17 := ext_K xG21 hLq17 hKq17
  have hLq17 := ext_L xG21 hLq17
  have hKq18 := ext_K xG21 hLq18 hKq18
  have hLq18 := ext_L xG21 hLq18
  have hext := ext_tr hext xG21
  obtain ⟨z23, h⟩ := h
  refine r_astR cx w hLq17 hKq17 hLq18 hKq18 z23 dX8_init_58 (fun H locs w cx => ?_)
  obtain ⟨G24, eG24⟩ : ∃ z, z = gSt G21 q17 (Int32.toNatClampNeg (0 : Int32)) q18 := ⟨_, rfl⟩
  rw [← eG24] at w cx
  have h := h G24 eG24
  have xG24 := ext_st eG24
  have hKa0 := ext_K xG24 hLa0 hKa0
  have hLa0 := ext_L xG24 hLa0
  have hKq1 := ext_K xG24 hLq1 hKq1
  have hLq1 := ext_L xG24 hLq1
  have hKq5 := ext_K xG24 hLq5 hKq5
  have hLq5 := ext_L xG24 hLq5
  have hKq9 := ext_K xG24 hLq9 hKq9
  have hLq9 := ext_L xG24 hLq9
  have hKq13 := ext_K xG24 hLq13 hKq13
  have hLq13 := ext_L xG24 hLq13
  have hKq17 := ext_K xG24 hLq17 hKq17
  have hLq17 := ext_L xG24 hLq17
  have hKq18 := ext_K xG24 hLq18 hKq18
  have hLq18 := ext_L xG24 hLq18
  have hext := ext_tr hext xG24
  refine lv_iinc (v := (1 : Int32)) (lv' := [(1, .int ((1 : Int32))), (0, .ref a0)]) hx hb dX8_init_59 hl (k := 0) rfl (by decide) (by decide) rfl (fun ls hl => ?_)
  refine lv_goto (tgt := 40) hx hb dX8_init_62 (by decide) ?_
  refine lv_iload_n hx hb dX8_init_40 rfl (lv_at hl 0 rfl) ?_
  refine lv_bipush (v := (6 : Int32)) hx hb dX8_init_41 (by decide) ?_
  refine lv_icmp_ge (tgt := 65) hx hb dX8_init_43 (by decide) (fun k => absurd k (by decide)) (fun _ => ?_)
  refine lv_aload_n hx hb dX8_init_46 rfl (lv_at hl 1 rfl) ?_
  obtain ⟨q25, eq25, h⟩ := h
  obtain ⟨hLq25, hKq25⟩ := wt_q (cX_wt cx) hLa0 hKa0 eq25
  have hKq25 : gK G24 q25 = 14 := hKq25
  refine r_getR (k := 3) cx w hLa0 hKa0 (by decide) rfl wk_X8_init_X8 (by decide) rfl eq25 (List.mem_of_getElem? (i := 9) rfl) dX8_init_47 ?_
  refine lv_iload_n hx hb dX8_init_50 rfl (lv_at hl 0 rfl) ?_
  refine r_newO cx w tyX0 tyX0_ok rfl (by decide) wk_X8_init_X0 (List.mem_of_getElem? (i := 8) rfl) (List.mem_of_getElem? (i := 10) rfl) (List.mem_of_getElem? (i := 11) rfl) df_0 (Nat.le_of_ble_eq_true rfl) (Nat.le_of_ble_eq_true rfl) dX8_init_51 (fun q26 H nq26 w cx => ?_)
  obtain ⟨G27, eG27⟩ : ∃ z, z = gNw G24 q26 0 0 := ⟨_, rfl⟩
  obtain ⟨M28, eM28⟩ : ∃ z, z = wZ M22 q26 := ⟨_, rfl⟩
  rw [← eG27] at cx
  rw [← eG27, ← eM28] at w
  have h := h q26 nq26 G27 eG27 M28 eM28
  have xG27 := ext_nw eG27 nq26
  have hKa0 := ext_K xG27 hLa0 hKa0
  have hLa0 := ext_L xG27 hLa0
  have hKq1 := ext_K xG27 hLq1 hKq1
  have hLq1 := ext_L xG27 hLq1
  have hKq5 := ext_K xG27 hLq5 hKq5
  have hLq5 := ext_L xG27 hLq5
  have hKq9 := ext_K xG27 hLq9 hKq9
  have hLq9 := ext_L xG27 hLq9
  have hKq13 := ext_K xG27 hLq13 hKq13
  have hLq13 := ext_L xG27 hLq13
  have hKq17 := ext_K xG27 hLq17 hKq17
  have hLq17 := ext_L xG27 hLq17
  have hKq18 := ext_K xG27 hLq18 hKq18
  have hLq18 := ext_L xG27 hLq18
  have hKq25 := ext_K xG27 hLq25 hKq25
  have hLq25 := ext_L xG27 hLq25
  have hext := ext_tr hext xG27
  have hLq26 := nw_Lq eG27
  have hKq26 := nw_Kq eG27
  refine lv_dup hx hb dX8_init_54 rfl ?_
  refine r_callNN (As := []) (rest := [.ref q26, .int ((1 : Int32)), .ref q25]) cx w ⟨Nat.le_of_ble_eq_true rfl, Nat.le_of_ble_eq_true rfl⟩ hl.1 (kn_X0_init (cX_wt cx) hLq26 hKq26 h) ⟨va_cnB 0 hts gX8_init_X0_init_n27 rfl rfl rfl (nwM cx (q := (RX8, 27, yX0_init, "FlagAnts")) (List.mem_of_getElem? (i := 4) rfl)) (hts _ (List.mem_of_getElem? (i := 11) rfl)) (by decide +kernel) ⟨Nat.le_of_ble_eq_true rfl, Nat.le_of_ble_eq_true rfl⟩, rfl, hts _ (List.mem_of_getElem? (i := 12) rfl)⟩ rfl rfl (Nat.le_of_ble_eq_true rfl) dX8_init_55 (fun G29 M30 H locs h xG29 cx w => ?_)
  have hKa0 := ext_K xG29 hLa0 hKa0
  have hLa0 := ext_L xG29 hLa0
  have hKq1 := ext_K xG29 hLq1 hKq1
  have hLq1 := ext_L xG29 hLq1
  have hKq5 := ext_K xG29 hLq5 hKq5
  have hLq5 := ext_L xG29 hLq5
  have hKq9 := ext_K xG29 hLq9 hKq9
  have hLq9 := ext_L xG29 hLq9
  have hKq13 := ext_K xG29 hLq13 hKq13
  have hLq13 := ext_L xG29 hLq13
  have hKq17 := ext_K xG29 hLq17 hKq17
  have hLq17 := ext_L xG29 hLq17
  have hKq18 := ext_K xG29 hLq18 hKq18
  have hLq18 := ext_L xG29 hLq18
  have hKq25 := ext_K xG29 hLq25 hKq25
  have hLq25 := ext_L xG29 hLq25
  have hKq26 := ext_K xG29 hLq26 hKq26
  have hLq26 := ext_L xG29 hLq26
  have hext := ext_tr hext xG29
  obtain ⟨z31, h⟩ := h
  refine r_astR cx w hLq25 hKq25 hLq26 hKq26 z31 dX8_init_58 (fun H locs w cx => ?_)
  obtain ⟨G32, eG32⟩ : ∃ z, z = gSt G29 q25 (Int32.toNatClampNeg (1 : Int32)) q26 := ⟨_, rfl⟩
  rw [← eG32] at w cx
  have h := h G32 eG32
  have xG32 := ext_st eG32
  have hKa0 := ext_K xG32 hLa0 hKa0
  have hLa0 := ext_L xG32 hLa0
  have hKq1 := ext_K xG32 hLq1 hKq1
  have hLq1 := ext_L xG32 hLq1
  have hKq5 := ext_K xG32 hLq5 hKq5
  have hLq5 := ext_L xG32 hLq5
  have hKq9 := ext_K xG32 hLq9 hKq9
  have hLq9 := ext_L xG32 hLq9
  have hKq13 := ext_K xG32 hLq13 hKq13
  have hLq13 := ext_L xG32 hLq13
  have hKq17 := ext_K xG32 hLq17 hKq17
  have hLq17 := ext_L xG32 hLq17
  have hKq18 := ext_K xG32 hLq18 hKq18
  have hLq18 := ext_L xG32 hLq18
  have hKq25 := ext_K xG32 hLq25 hKq25
  have hLq25 := ext_L xG32 hLq25
  have hKq26 := ext_K xG32 hLq26 hKq26
  have hLq26 := ext_L xG32 hLq26
  have hext := ext_tr hext xG32
  refine lv_iinc (v := (2 : Int32)) (lv' := [(1, .int ((2 : Int32))), (0, .ref a0)]) hx hb dX8_init_59 hl (k := 0) rfl (by decide) (by decide) rfl (fun ls hl => ?_)
  refine lv_goto (tgt := 40) hx hb dX8_init_62 (by decide) ?_
  refine lv_iload_n hx hb dX8_init_40 rfl (lv_at hl 0 rfl) ?_
  refine lv_bipush (v := (6 : Int32)) hx hb dX8_init_41 (by decide) ?_
  refine lv_icmp_ge (tgt := 65) hx hb dX8_init_43 (by decide) (fun k => absurd k (by decide)) (fun _ => ?_)
  refine lv_aload_n hx hb dX8_init_46 rfl (lv_at hl 1 rfl) ?_
  obtain ⟨q33, eq33, h⟩ := h
  obtain ⟨hLq33, hKq33⟩ := wt_q (cX_wt cx) hLa0 hKa0 eq33
  have hKq33 : gK G32 q33 = 14 := hKq33
  refine r_getR (k := 3) cx w hLa0 hKa0 (by decide) rfl wk_X8_init_X8 (by decide) rfl eq33 (List.mem_of_getElem? (i := 9) rfl) dX8_init_47 ?_
  refine lv_iload_n hx hb dX8_init_50 rfl (lv_at hl 0 rfl) ?_
  refine r_newO cx w tyX0 tyX0_ok rfl (by decide) wk_X8_init_X0 (List.mem_of_getElem? (i := 8) rfl) (List.mem_of_getElem? (i := 10) rfl) (List.mem_of_getElem? (i := 11) rfl) df_0 (Nat.le_of_ble_eq_true rfl) (Nat.le_of_ble_eq_true rfl) dX8_init_51 (fun q34 H nq34 w cx => ?_)
  obtain ⟨G35, eG35⟩ : ∃ z, z = gNw G32 q34 0 0 := ⟨_, rfl⟩
  obtain ⟨M36, eM36⟩ : ∃ z, z = wZ M30 q34 := ⟨_, rfl⟩
  rw [← eG35] at cx
  rw [← eG35, ← eM36] at w
  have h := h q34 nq34 G35 eG35 M36 eM36
  have xG35 := ext_nw eG35 nq34
  have hKa0 := ext_K xG35 hLa0 hKa0
  have hLa0 := ext_L xG35 hLa0
  have hKq1 := ext_K xG35 hLq1 hKq1
  have hLq1 := ext_L xG35 hLq1
  have hKq5 := ext_K xG35 hLq5 hKq5
  have hLq5 := ext_L xG35 hLq5
  have hKq9 := ext_K xG35 hLq9 hKq9
  have hLq9 := ext_L xG35 hLq9
  have hKq13 := ext_K xG35 hLq13 hKq13
  have hLq13 := ext_L xG35 hLq13
  have hKq17 := ext_K xG35 hLq17 hKq17
  have hLq17 := ext_L xG35 hLq17
  have hKq18 := ext_K xG35 hLq18 hKq18
  have hLq18 := ext_L xG35 hLq18
  have hKq25 := ext_K xG35 hLq25 hKq25
  have hLq25 := ext_L xG35 hLq25
  have hKq26 := ext_K xG35 hLq26 hKq26
  have hLq26 := ext_L xG35 hLq26
  have hKq33 := ext_K xG35 hLq33 hKq33
  have hLq33 := ext_L xG35 hLq33
  have hext := ext_tr hext xG35
  have hLq34 := nw_Lq eG35
  have hKq34 := nw_Kq eG35
  refine lv_dup hx hb dX8_init_54 rfl ?_
  refine r_callNN (As := []) (rest := [.ref q34, .int ((2 : Int32)), .ref q33]) cx w ⟨Nat.le_of_ble_eq_true rfl, Nat.le_of_ble_eq_true rfl⟩ hl.1 (kn_X0_init (cX_wt cx) hLq34 hKq34 h) ⟨va_cnB 0 hts gX8_init_X0_init_n27 rfl rfl rfl (nwM cx (q := (RX8, 27, yX0_init, "FlagAnts")) (List.mem_of_getElem? (i := 4) rfl)) (hts _ (List.mem_of_getElem? (i := 11) rfl)) (by decide +kernel) ⟨Nat.le_of_ble_eq_true rfl, Nat.le_of_ble_eq_true rfl⟩, rfl, hts _ (List.mem_of_getElem? (i := 12) rfl)⟩ rfl rfl (Nat.le_of_ble_eq_true rfl) dX8_init_55 (fun G37 M38 H locs h xG37 cx w => ?_)
  have hKa0 := ext_K xG37 hLa0 hKa0
  have hLa0 := ext_L xG37 hLa0
  have hKq1 := ext_K xG37 hLq1 hKq1
  have hLq1 := ext_L xG37 hLq1
  have hKq5 := ext_K xG37 hLq5 hKq5
  have hLq5 := ext_L xG37 hLq5
  have hKq9 := ext_K xG37 hLq9 hKq9
  have hLq9 := ext_L xG37 hLq9
  have hKq13 := ext_K xG37 hLq13 hKq13
  have hLq13 := ext_L xG37 hLq13
  have hKq17 := ext_K xG37 hLq17 hKq17
  have hLq17 := ext_L xG37 hLq17
  have hKq18 := ext_K xG37 hLq18 hKq18
  have hLq18 := ext_L xG37 hLq18
  have hKq25 := ext_K xG37 hLq25 hKq25
  have hLq25 := ext_L xG37 hLq25
  have hKq26 := ext_K xG37 hLq26 hKq26
  have hLq26 := ext_L xG37 hLq26
  have hKq33 := ext_K xG37 hLq33 hKq33
  have hLq33 := ext_L xG37 hLq33
  have hKq34 := ext_K xG37 hLq34 hKq34
  have hLq34 := ext_L xG37 hLq34
  have hext := ext_tr hext xG37
  obtain ⟨z39, h⟩ := h
  refine r_astR cx w hLq33 hKq33 hLq34 hKq34 z39 dX8_init_58 (fun H locs w cx => ?_)
  obtain ⟨G40, eG40⟩ : ∃ z, z = gSt G37 q33 (Int32.toNatClampNeg (2 : Int32)) q34 := ⟨_, rfl⟩
  rw [← eG40] at w cx
  have h := h G40 eG40
  have xG40 := ext_st eG40
  have hKa0 := ext_K xG40 hLa0 hKa0
  have hLa0 := ext_L xG40 hLa0
  have hKq1 := ext_K xG40 hLq1 hKq1
  have hLq1 := ext_L xG40 hLq1
  have hKq5 := ext_K xG40 hLq5 hKq5
  have hLq5 := ext_L xG40 hLq5
  have hKq9 := ext_K xG40 hLq9 hKq9
  have hLq9 := ext_L xG40 hLq9
  have hKq13 := ext_K xG40 hLq13 hKq13
  have hLq13 := ext_L xG40 hLq13
  have hKq17 := ext_K xG40 hLq17 hKq17
  have hLq17 := ext_L xG40 hLq17
  have hKq18 := ext_K xG40 hLq18 hKq18
  have hLq18 := ext_L xG40 hLq18
  have hKq25 := ext_K xG40 hLq25 hKq25
  have hLq25 := ext_L xG40 hLq25
  have hKq26 := ext_K xG40 hLq26 hKq26
  have hLq26 := ext_L xG40 hLq26
  have hKq33 := ext_K xG40 hLq33 hKq33
  have hLq33 := ext_L xG40 hLq33
  have hKq34 := ext_K xG40 hLq34 hKq34
  have hLq34 := ext_L xG40 hLq34
  have hext := ext_tr hext xG40
  refine lv_iinc (v := (3 : Int32)) (lv' := [(1, .int ((3 : Int32))), (0, .ref a0)]) hx hb dX8_init_59 hl (k := 0) rfl (by decide) (by decide) rfl (fun ls hl => ?_)
  refine lv_goto (tgt := 40) hx hb dX8_init_62 (by decide) ?_
  refine lv_iload_n hx hb dX8_init_40 rfl (lv_at hl 0 rfl) ?_
  refine lv_bipush (v := (6 : Int32)) hx hb dX8_init_41 (by decide) ?_
  refine lv_icmp_ge (tgt := 65) hx hb dX8_init_43 (by decide) (fun k => absurd k (by decide)) (fun _ => ?_)
  refine lv_aload_n hx hb dX8_init_46 rfl (lv_at hl 1 rfl) ?_
  obtain ⟨q41, eq41, h⟩ := h
  obtain ⟨hLq41, hKq41⟩ := wt_q (cX_wt cx) hLa0 hKa0 eq41
  have hKq41 : gK G40 q41 = 14 := hKq41
  refine r_getR (k := 3) cx w hLa0 hKa0 (by decide) rfl wk_X8_init_X8 (by decide) rfl eq41 (List.mem_of_getElem? (i := 9) rfl) dX8_init_47 ?_
  refine lv_iload_n hx hb dX8_init_50 rfl (lv_at hl 0 rfl) ?_
  refine r_newO cx w tyX0 tyX0_ok rfl (by decide) wk_X8_init_X0 (List.mem_of_getElem? (i := 8) rfl) (List.mem_of_getElem? (i := 10) rfl) (List.mem_of_getElem? (i := 11) rfl) df_0 (Nat.le_of_ble_eq_true rfl) (Nat.le_of_ble_eq_true rfl) dX8_init_51 (fun q42 H nq42 w cx => ?_)
  obtain ⟨G43, eG43⟩ : ∃ z, z = gNw G40 q42 0 0 := ⟨_, rfl⟩
  obtain ⟨M44, eM44⟩ : ∃ z, z = wZ M38 q42 := ⟨_, rfl⟩
  rw [← eG43] at cx
  rw [← eG43, ← eM44] at w
  have h := h q42 nq42 G43 eG43 M44 eM44
  have xG43 := ext_nw eG43 nq42
  have hKa0 := ext_K xG43 hLa0 hKa0
  have hLa0 := ext_L xG43 hLa0
  have hKq1 := ext_K xG43 hLq1 hKq1
  have hLq1 := ext_L xG43 hLq1
  have hKq5 := ext_K xG43 hLq5 hKq5
  have hLq5 := ext_L xG43 hLq5
  have hKq9 := ext_K xG43 hLq9 hKq9
  have hLq9 := ext_L xG43 hLq9
  have hKq13 := ext_K xG43 hLq13 hKq13
  have hLq13 := ext_L xG43 hLq13
  have hKq17 := ext_K xG43 hLq17 hKq17
  have hLq17 := ext_L xG43 hLq17
  have hKq18 := ext_K xG43 hLq18 hKq18
  have hLq18 := ext_L xG43 hLq18
  have hKq25 := ext_K xG43 hLq25 hKq25
  have hLq25 := ext_L xG43 hLq25
  have hKq26 := ext_K xG43 hLq26 hKq26
  have hLq26 := ext_L xG43 hLq26
  have hKq33 := ext_K xG43 hLq33 hKq33
  have hLq33 := ext_L xG43 hLq33
  have hKq34 := ext_K xG43 hLq34 hKq34
  have hLq34 := ext_L xG43 hLq34
  have hKq41 := ext_K xG43 hLq41 hKq41
  have hLq41 := ext_L xG43 hLq41
  have hext := ext_tr hext xG43
  have hLq42 := nw_Lq eG43
  have hKq42 := nw_Kq eG43
  refine lv_dup hx hb dX8_init_54 rfl ?_
  refine r_callNN (As := []) (rest := [.ref q42, .int ((3 : Int32)), .ref q41]) cx w ⟨Nat.le_of_ble_eq_true rfl, Nat.le_of_ble_eq_true rfl⟩ hl.1 (kn_X0_init (cX_wt cx) hLq42 hKq42 h) ⟨va_cnB 0 hts gX8_init_X0_init_n27 rfl rfl rfl (nwM cx (q := (RX8, 27, yX0_init, "FlagAnts")) (List.mem_of_getElem? (i := 4) rfl)) (hts _ (List.mem_of_getElem? (i := 11) rfl)) (by decide +kernel) ⟨Nat.le_of_ble_eq_true rfl, Nat.le_of_ble_eq_true rfl⟩, rfl, hts _ (List.mem_of_getElem? (i := 12) rfl)⟩ rfl rfl (Nat.le_of_ble_eq_true rfl) dX8_init_55 (fun G45 M46 H locs h xG45 cx w => ?_)
  have hKa0 := ext_K xG45 hLa0 hKa0
  have hLa0 := ext_L xG45 hLa0
  have hKq1 := ext_K xG45 hLq1 hKq1
  have hLq1 := ext_L xG45 hLq1
  have hKq5 := ext_K xG45 hLq5 hKq5
  have hLq5 := ext_L xG45 hLq5
  have hKq9 := ext_K xG45 hLq9 hKq9
  have hLq9 := ext_L xG45 hLq9
  have hKq13 := ext_K xG45 hLq13 hKq13
  have hLq13 := ext_L xG45 hLq13
  have hKq17 := ext_K xG45 hLq17 hKq17
  have hLq17 := ext_L xG45 hLq17
  have hKq18 := ext_K xG45 hLq18 hKq18
  have hLq18 := ext_L xG45 hLq18
  have hKq25 := ext_K xG45 hLq25 hKq25
  have hLq25 := ext_L xG45 hLq25
  have hKq26 := ext_K xG45 hLq26 hKq26
  have hLq26 := ext_L xG45 hLq26
  have hKq33 := ext_K xG45 hLq33 hKq33
  have hLq33 := ext_L xG45 hLq33
  have hKq34 := ext_K xG45 hLq34 hKq34
  have hLq34 := ext_L xG45 hLq34
  have hKq41 := ext_K xG45 hLq41 hKq41
  have hLq41 := ext_L xG45 hLq41
  have hKq42 := ext_K xG45 hLq42 hKq42
  have hLq42 := ext_L xG45 hLq42
  have hext := ext_tr hext xG45
  obtain ⟨z47, h⟩ := h
  refine r_astR cx w hLq41 hKq41 hLq42 hKq42 z47 dX8_init_58 (fun H locs w cx => ?_)
  obtain ⟨G48, eG48⟩ : ∃ z, z = gSt G45 q41 (Int32.toNatClampNeg (3 : Int32)) q42 := ⟨_, rfl⟩
  rw [← eG48] at w cx
  have h := h G48 eG48
  have xG48 := ext_st eG48
  have hKa0 := ext_K xG48 hLa0 hKa0
  have hLa0 := ext_L xG48 hLa0
  have hKq1 := ext_K xG48 hLq1 hKq1
  have hLq1 := ext_L xG48 hLq1
  have hKq5 := ext_K xG48 hLq5 hKq5
  have hLq5 := ext_L xG48 hLq5
  have hKq9 := ext_K xG48 hLq9 hKq9
  have hLq9 := ext_L xG48 hLq9
  have hKq13 := ext_K xG48 hLq13 hKq13
  have hLq13 := ext_L xG48 hLq13
  have hKq17 := ext_K xG48 hLq17 hKq17
  have hLq17 := ext_L xG48 hLq17
  have hKq18 := ext_K xG48 hLq18 hKq18
  have hLq18 := ext_L xG48 hLq18
  have hKq25 := ext_K xG48 hLq25 hKq25
  have hLq25 := ext_L xG48 hLq25
  have hKq26 := ext_K xG48 hLq26 hKq26
  have hLq26 := ext_L xG48 hLq26
  have hKq33 := ext_K xG48 hLq33 hKq33
  have hLq33 := ext_L xG48 hLq33
  have hKq34 := ext_K xG48 hLq34 hKq34
  have hLq34 := ext_L xG48 hLq34
  have hKq41 := ext_K xG48 hLq41 hKq41
  have hLq41 := ext_L xG48 hLq41
  have hKq42 := ext_K xG48 hLq42 hKq42
  have hLq42 := ext_L xG48 hLq42
  have hext := ext_tr hext xG48
  refine lv_iinc (v := (4 : Int32)) (lv' := [(1, .int ((4 : Int32))), (0, .ref a0)]) hx hb dX8_init_59 hl (k := 0) rfl (by decide) (by decide) rfl (fun ls hl => ?_)
  refine lv_goto (tgt := 40) hx hb dX8_init_62 (by decide) ?_
  refine lv_iload_n hx hb dX8_init_40 rfl (lv_at hl 0 rfl) ?_
  refine lv_bipush (v := (6 : Int32)) hx hb dX8_init_41 (by decide) ?_
  refine lv_icmp_ge (tgt := 65) hx hb dX8_init_43 (by decide) (fun k => absurd k (by decide)) (fun _ => ?_)
  refine lv_aload_n hx hb dX8_init_46 rfl (lv_at hl 1 rfl) ?_
  obtain ⟨q49, eq49, h⟩ := h
  obtain ⟨hLq49, hKq49⟩ := wt_q (cX_wt cx) hLa0 hKa0 eq49
  have hKq49 : gK G48 q49 = 14 := hKq49
  refine r_getR (k := 3) cx w hLa0 hKa0 (by decide) rfl wk_X8_init_X8 (by decide) rfl eq49 (List.mem_of_getElem? (i := 9) rfl) dX8_init_47 ?_
  refine lv_iload_n hx hb dX8_init_50 rfl (lv_at hl 0 rfl) ?_
  refine r_newO cx w tyX0 tyX0_ok rfl (by decide) wk_X8_init_X0 (List.mem_of_getElem? (i := 8) rfl) (List.mem_of_getElem? (i := 10) rfl) (List.mem_of_getElem? (i := 11) rfl) df_0 (Nat.le_of_ble_eq_true rfl) (Nat.le_of_ble_eq_true rfl) dX8_init_51 (fun q50 H nq50 w cx => ?_)
  obtain ⟨G51, eG51⟩ : ∃ z, z = gNw G48 q50 0 0 := ⟨_, rfl⟩
  obtain ⟨M52, eM52⟩ : ∃ z, z = wZ M46 q50 := ⟨_, rfl⟩
  rw [← eG51] at cx
  rw [← eG51, ← eM52] at w
  have h := h q50 nq50 G51 eG51 M52 eM52
  have xG51 := ext_nw eG51 nq50
  have hKa0 := ext_K xG51 hLa0 hKa0
  have hLa0 := ext_L xG51 hLa0
  have hKq1 := ext_K xG51 hLq1 hKq1
  have hLq1 := ext_L xG51 hLq1
  have hKq5 := ext_K xG51 hLq5 hKq5
  have hLq5 := ext_L xG51 hLq5
  have hKq9 := ext_K xG51 hLq9 hKq9
  have hLq9 := ext_L xG51 hLq9
  have hKq13 := ext_K xG51 hLq13 hKq13
  have hLq13 := ext_L xG51 hLq13
  have hKq17 := ext_K xG51 hLq17 hKq17
  have hLq17 := ext_L xG51 hLq17
  have hKq18 := ext_K xG51 hLq18 hKq18
  have hLq18 := ext_L xG51 hLq18
  have hKq25 := ext_K xG51 hLq25 hKq25
  have hLq25 := ext_L xG51 hLq25
  have hKq26 := ext_K xG51 hLq26 hKq26
  have hLq26 := ext_L xG51 hLq26
  have hKq33 := ext_K xG51 hLq33 hKq33
  have hLq33 := ext_L xG51 hLq33
  have hKq34 := ext_K xG51 hLq34 hKq34
  have hLq34 := ext_L xG51 hLq34
  have hKq41 := ext_K xG51 hLq41 hKq41
  have hLq41 := ext_L xG51 hLq41
  have hKq42 := ext_K xG51 hLq42 hKq42
  have hLq42 := ext_L xG51 hLq42
  have hKq49 := ext_K xG51 hLq49 hKq49
  have hLq49 := ext_L xG51 hLq49
  have hext := ext_tr hext xG51
  have hLq50 := nw_Lq eG51
  have hKq50 := nw_Kq eG51
  refine lv_dup hx hb dX8_init_54 rfl ?_
  refine r_callNN (As := []) (rest := [.ref q50, .int ((4 : Int32)), .ref q49]) cx w ⟨Nat.le_of_ble_eq_true rfl, Nat.le_of_ble_eq_true rfl⟩ hl.1 (kn_X0_init (cX_wt cx) hLq50 hKq50 h) ⟨va_cnB 0 hts gX8_init_X0_init_n27 rfl rfl rfl (nwM cx (q := (RX8, 27, yX0_init, "FlagAnts")) (List.mem_of_getElem? (i := 4) rfl)) (hts _ (List.mem_of_getElem? (i := 11) rfl)) (by decide +kernel) ⟨Nat.le_of_ble_eq_true rfl, Nat.le_of_ble_eq_true rfl⟩, rfl, hts _ (List.mem_of_getElem? (i := 12) rfl)⟩ rfl rfl (Nat.le_of_ble_eq_true rfl) dX8_init_55 (fun G53 M54 H locs h xG53 cx w => ?_)
  have hKa0 := ext_K xG53 hLa0 hKa0
  have hLa0 := ext_L xG53 hLa0
  have hKq1 := ext_K xG53 hLq1 hKq1
  have hLq1 := ext_L xG53 hLq1
  have hKq5 := ext_K xG53 hLq5 hKq5
  have hLq5 := ext_L xG53 hLq5
  have hKq9 := ext_K xG53 hLq9 hKq9
  have hLq9 := ext_L xG53 hLq9
  have hKq13 := ext_K xG53 hLq13 hKq13
  have hLq13 := ext_L xG53 hLq13
  have hKq17 := ext_K xG53 hLq17 hKq17
  have hLq17 := ext_L xG53 hLq17
  have hKq18 := ext_K xG53 hLq18 hKq18
  have hLq18 := ext_L xG53 hLq18
  have hKq25 := ext_K xG53 hLq25 hKq25
  have hLq25 := ext_L xG53 hLq25
  have hKq26 := ext_K xG53 hLq26 hKq26
  have hLq26 := ext_L xG53 hLq26
  have hKq33 := ext_K xG53 hLq33 hKq33
  have hLq33 := ext_L xG53 hLq33
  have hKq34 := ext_K xG53 hLq34 hKq34
  have hLq34 := ext_L xG53 hLq34
  have hKq41 := ext_K xG53 hLq41 hKq41
  have hLq41 := ext_L xG53 hLq41
  have hKq42 := ext_K xG53 hLq42 hKq42
  have hLq42 := ext_L xG53 hLq42
  have hKq49 := ext_K xG53 hLq49 hKq49
  have hLq49 := ext_L xG53 hLq49
  have hKq50 := ext_K xG53 hLq50 hKq50
  have hLq50 := ext_L xG53 hLq50
  have hext := ext_tr hext xG53
  obtain ⟨z55, h⟩ := h
  refine r_astR cx w hLq49 hKq49 hLq50 hKq50 z55 dX8_init_58 (fun H locs w cx => ?_)
  obtain ⟨G56, eG56⟩ : ∃ z, z = gSt G53 q49 (Int32.toNatClampNeg (4 : Int32)) q50 := ⟨_, rfl⟩
  rw [← eG56] at w cx
  have h := h G56 eG56
  have xG56 := ext_st eG56
  have hKa0 := ext_K xG56 hLa0 hKa0
  have hLa0 := ext_L xG56 hLa0
  have hKq1 := ext_K xG56 hLq1 hKq1
  have hLq1 := ext_L xG56 hLq1
  have hKq5 := ext_K xG56 hLq5 hKq5
  have hLq5 := ext_L xG56 hLq5
  have hKq9 := ext_K xG56 hLq9 hKq9
  have hLq9 := ext_L xG56 hLq9
  have hKq13 := ext_K xG56 hLq13 hKq13
  have hLq13 := ext_L xG56 hLq13
  have hKq17 := ext_K xG56 hLq17 hKq17
  have hLq17 := ext_L xG56 hLq17
  have hKq18 := ext_K xG56 hLq18 hKq18
  have hLq18 := ext_L xG56 hLq18
  have hKq25 := ext_K xG56 hLq25 hKq25
  have hLq25 := ext_L xG56 hLq25
  have hKq26 := ext_K xG56 hLq26 hKq26
  have hLq26 := ext_L xG56 hLq26
  have hKq33 := ext_K xG56 hLq33 hKq33
  have hLq33 := ext_L xG56 hLq33
  have hKq34 := ext_K xG56 hLq34 hKq34
  have hLq34 := ext_L xG56 hLq34
  have hKq41 := ext_K xG56 hLq41 hKq41
  have hLq41 := ext_L xG56 hLq41
  have hKq42 := ext_K xG56 hLq42 hKq42
  have hLq42 := ext_L xG56 hLq42
  have hKq49 := ext_K xG56 hLq49 hKq49
  have hLq49 := ext_L xG56 hLq49
  have hKq50 := ext_K xG56 hLq50 hKq50
  have hLq50 := ext_L xG56 hLq50
  have hext := ext_tr hext xG56
  refine lv_iinc (v := (5 : Int32)) (lv' := [(1, .int ((5 : Int32))), (0, .ref a0)]) hx hb dX8_init_59 hl (k := 0) rfl (by decide) (by decide) rfl (fun ls hl => ?_)
  refine lv_goto (tgt := 40) hx hb dX8_init_62 (by decide) ?_
  refine lv_iload_n hx hb dX8_init_40 rfl (lv_at hl 0 rfl) ?_
  refine lv_bipush (v := (6 : Int32)) hx hb dX8_init_41 (by decide) ?_
  refine lv_icmp_ge (tgt := 65) hx hb dX8_init_43 (by decide) (fun k => absurd k (by decide)) (fun _ => ?_)
  refine lv_aload_n hx hb dX8_init_46 rfl (lv_at hl 1 rfl) ?_
  obtain ⟨q57, eq57, h⟩ := h
  obtain ⟨hLq57, hKq57⟩ := wt_q (cX_wt cx) hLa0 hKa0 eq57
  have hKq57 : gK G56 q57 = 14 := hKq57
  refine r_getR (k := 3) cx w hLa0 hKa0 (by decide) rfl wk_X8_init_X8 (by decide) rfl eq57 (List.mem_of_getElem? (i := 9) rfl) dX8_init_47 ?_
  refine lv_iload_n hx hb dX8_init_50 rfl (lv_at hl 0 rfl) ?_
  refine r_newO cx w tyX0 tyX0_ok rfl (by decide) wk_X8_init_X0 (List.mem_of_getElem? (i := 8) rfl) (List.mem_of_getElem? (i := 10) rfl) (List.mem_of_getElem? (i := 11) rfl) df_0 (Nat.le_of_ble_eq_true rfl) (Nat.le_of_ble_eq_true rfl) dX8_init_51 (fun q58 H nq58 w cx => ?_)
  obtain ⟨G59, eG59⟩ : ∃ z, z = gNw G56 q58 0 0 := ⟨_, rfl⟩
  obtain ⟨M60, eM60⟩ : ∃ z, z = wZ M54 q58 := ⟨_, rfl⟩
  rw [← eG59] at cx
  rw [← eG59, ← eM60] at w
  have h := h q58 nq58 G59 eG59 M60 eM60
  have xG59 := ext_nw eG59 nq58
  have hKa0 := ext_K xG59 hLa0 hKa0
  have hLa0 := ext_L xG59 hLa0
  have hKq1 := ext_K xG59 hLq1 hKq1
  have hLq1 := ext_L xG59 hLq1
  have hKq5 := ext_K xG59 hLq5 hKq5
  have hLq5 := ext_L xG59 hLq5
  have hKq9 := ext_K xG59 hLq9 hKq9
  have hLq9 := ext_L xG59 hLq9
  have hKq13 := ext_K xG59 hLq13 hKq13
  have hLq13 := ext_L xG59 hLq13
  have hKq17 := ext_K xG59 hLq17 hKq17
  have hLq17 := ext_L xG59 hLq17
  have hKq18 := ext_K xG59 hLq18 hKq18
  have hLq18 := ext_L xG59 hLq18
  have hKq25 := ext_K xG59 hLq25 hKq25
  have hLq25 := ext_L xG59 hLq25
  have hKq26 := ext_K xG59 hLq26 hKq26
  have hLq26 := ext_L xG59 hLq26
  have hKq33 := ext_K xG59 hLq33 hKq33
  have hLq33 := ext_L xG59 hLq33
  have hKq34 := ext_K xG59 hLq34 hKq34
  have hLq34 := ext_L xG59 hLq34
  have hKq41 := ext_K xG59 hLq41 hKq41
  have hLq41 := ext_L xG59 hLq41
  have hKq42 := ext_K xG59 hLq42 hKq42
  have hLq42 := ext_L xG59 hLq42
  have hKq49 := ext_K xG59 hLq49 hKq49
  have hLq49 := ext_L xG59 hLq49
  have hKq50 := ext_K xG59 hLq50 hKq50
  have hLq50 := ext_L xG59 hLq50
  have hKq57 := ext_K xG59 hLq57 hKq57
  have hLq57 := ext_L xG59 hLq57
  have hext := ext_tr hext xG59
  have hLq58 := nw_Lq eG59
  have hKq58 := nw_Kq eG59
  refine lv_dup hx hb dX8_init_54 rfl ?_
  refine r_callNN (As := []) (rest := [.ref q58, .int ((5 : Int32)), .ref q57]) cx w ⟨Nat.le_of_ble_eq_true rfl, Nat.le_of_ble_eq_true rfl⟩ hl.1 (kn_X0_init (cX_wt cx) hLq58 hKq58 h) ⟨va_cnB 0 hts gX8_init_X0_init_n27 rfl rfl rfl (nwM cx (q := (RX8, 27, yX0_init, "FlagAnts")) (List.mem_of_getElem? (i := 4) rfl)) (hts _ (List.mem_of_getElem? (i := 11) rfl)) (by decide +kernel) ⟨Nat.le_of_ble_eq_true rfl, Nat.le_of_ble_eq_true rfl⟩, rfl, hts _ (List.mem_of_getElem? (i := 12) rfl)⟩ rfl rfl (Nat.le_of_ble_eq_true rfl) dX8_init_55 (fun G61 M62 H locs h xG61 cx w => ?_)
  have hKa0 := ext_K xG61 hLa0 hKa0
  have hLa0 := ext_L xG61 hLa0
  have hKq1 := ext_K xG61 hLq1 hKq1
  have hLq1 := ext_L xG61 hLq1
  have hKq5 := ext_K xG61 hLq5 hKq5
  have hLq5 := ext_L xG61 hLq5
  have hKq9 := ext_K xG61 hLq9 hKq9
  have hLq9 := ext_L xG61 hLq9
  have hKq13 := ext_K xG61 hLq13 hKq13
  have hLq13 := ext_L xG61 hLq13
  have hKq17 := ext_K xG61 hLq17 hKq17
  have hLq17 := ext_L xG61 hLq17
  have hKq18 := ext_K xG61 hLq18 hKq18
  have hLq18 := ext_L xG61 hLq18
  have hKq25 := ext_K xG61 hLq25 hKq25
  have hLq25 := ext_L xG61 hLq25
  have hKq26 := ext_K xG61 hLq26 hKq26
  have hLq26 := ext_L xG61 hLq26
  have hKq33 := ext_K xG61 hLq33 hKq33
  have hLq33 := ext_L xG61 hLq33
  have hKq34 := ext_K xG61 hLq34 hKq34
  have hLq34 := ext_L xG61 hLq34
  have hKq41 := ext_K xG61 hLq41 hKq41
  have hLq41 := ext_L xG61 hLq41
  have hKq42 := ext_K xG61 hLq42 hKq42
  have hLq42 := ext_L xG61 hLq42
  have hKq49 := ext_K xG61 hLq49 hKq49
  have hLq49 := ext_L xG61 hLq49
  have hKq50 := ext_K xG61 hLq50 hKq50
  have hLq50 := ext_L xG61 hLq50
  have hKq57 := ext_K xG61 hLq57 hKq57
  have hLq57 := ext_L xG61 hLq57
  have hKq58 := ext_K xG61 hLq58 hKq58
  have hLq58 := ext_L xG61 hLq58
  have hext := ext_tr hext xG61
  obtain ⟨z63, h⟩ := h
  refine r_astR cx w hLq57 hKq57 hLq58 hKq58 z63 dX8_init_58 (fun H locs w cx => ?_)
  obtain ⟨G64, eG64⟩ : ∃ z, z = gSt G61 q57 (Int32.toNatClampNeg (5 : Int32)) q58 := ⟨_, rfl⟩
  rw [← eG64] at w cx
  have h := h G64 eG64
  have xG64 := ext_st eG64
  have hKa0 := ext_K xG64 hLa0 hKa0
  have hLa0 := ext_L xG64 hLa0
  have hKq1 := ext_K xG64 hLq1 hKq1
  have hLq1 := ext_L xG64 hLq1
  have hKq5 := ext_K xG64 hLq5 hKq5
  have hLq5 := ext_L xG64 hLq5
  have hKq9 := ext_K xG64 hLq9 hKq9
  have hLq9 := ext_L xG64 hLq9
  have hKq13 := ext_K xG64 hLq13 hKq13
  have hLq13 := ext_L xG64 hLq13
  have hKq17 := ext_K xG64 hLq17 hKq17
  have hLq17 := ext_L xG64 hLq17
  have hKq18 := ext_K xG64 hLq18 hKq18
  have hLq18 := ext_L xG64 hLq18
  have hKq25 := ext_K xG64 hLq25 hKq25
  have hLq25 := ext_L xG64 hLq25
  have hKq26 := ext_K xG64 hLq26 hKq26
  have hLq26 := ext_L xG64 hLq26
  have hKq33 := ext_K xG64 hLq33 hKq33
  have hLq33 := ext_L xG64 hLq33
  have hKq34 := ext_K xG64 hLq34 hKq34
  have hLq34 := ext_L xG64 hLq34
  have hKq41 := ext_K xG64 hLq41 hKq41
  have hLq41 := ext_L xG64 hLq41
  have hKq42 := ext_K xG64 hLq42 hKq42
  have hLq42 := ext_L xG64 hLq42
  have hKq49 := ext_K xG64 hLq49 hKq49
  have hLq49 := ext_L xG64 hLq49
  have hKq50 := ext_K xG64 hLq50 hKq50
  have hLq50 := ext_L xG64 hLq50
  have hKq57 := ext_K xG64 hLq57 hKq57
  have hLq57 := ext_L xG64 hLq57
  have hKq58 := ext_K xG64 hLq58 hKq58
  have hLq58 := ext_L xG64 hLq58
  have hext := ext_tr hext xG64
  refine lv_iinc (v := (6 : Int32)) (lv' := [(1, .int ((6 : Int32))), (0, .ref a0)]) hx hb dX8_init_59 hl (k := 0) rfl (by decide) (by decide) rfl (fun ls hl => ?_)
  refine lv_goto (tgt := 40) hx hb dX8_init_62 (by decide) ?_
  refine lv_iload_n hx hb dX8_init_40 rfl (lv_at hl 0 rfl) ?_
  refine lv_bipush (v := (6 : Int32)) hx hb dX8_init_41 (by decide) ?_
  refine lv_icmp_ge (tgt := 65) hx hb dX8_init_43 (by decide) (fun _ => ?_) (fun k => absurd (by decide) k)
  refine lv_aload_n hx hb dX8_init_65 rfl (lv_at hl 1 rfl) ?_
  obtain ⟨q65, eq65, h⟩ := h
  obtain ⟨hLq65, hKq65⟩ := wt_q (cX_wt cx) hLa0 hKa0 eq65
  have hKq65 : gK G64 q65 = 12 := hKq65
  refine r_getR (k := 2) cx w hLa0 hKa0 (by decide) rfl wk_X8_init_X8 (by decide) rfl eq65 (List.mem_of_getElem? (i := 7) rfl) dX8_init_66 ?_
  refine lv_iconst (v := (0 : Int32)) hx hb dX8_init_69 (by decide) ?_
  refine lv_sipush (v := (4096 : Int32)) hx hb dX8_init_70 (by decide) ?_
  obtain ⟨z66, h⟩ := h
  obtain ⟨M67, eM67⟩ : ∃ z, z = wI M62 q65 (Int32.toNatClampNeg (0 : Int32)) (4096 : Int32) := ⟨_, rfl⟩
  have h := h M67 eM67
  refine r_iast cx w hLq65 hKq65 z66 dX8_init_73 eM67 (fun H locs w => ?_)
  exact r_vretN cx w h hext (Nat.le_of_ble_eq_true rfl) (Nat.le_of_ble_eq_true rfl) dX8_init_74
theorem wk_X4_init_X4 : ∀ w ∈ wsX40, w ∈ wsX4_init := by decide +kernel
abbrev rnX4_init : Room := { frames := 1, cells := 1, slots := 64, locals := 60 }
def n_X4_init (G : gS) (M : mS) (a0 : Nat) (post : gS → mS → Prop) : Prop := ∀ q1, q1 ∉ gL G → ∀ G2, G2 = gNw G q1 12 64 → ∀ M3, M3 = wZ M q1 → (∀ G4, G4 = gSt G2 a0 0 q1 → (post G4 M3))
set_option maxHeartbeats 4000000 in
set_option maxRecDepth 100000 in
theorem kn_X4_init {l : Launch} {D : va_G} {cy : cyS} {G : gS} {M : mS} {post : gS → mS → Prop} {a0 : Nat} (hG : wt G) (hLa0 : a0 ∈ gL G) (hKa0 : gK G a0 = 3) (h : n_X4_init G M a0 post) : ctN l yX4_init wsX4_init rnX4_init D cy G M [.ref a0] 1 64 post := by
  unfold n_X4_init at h
  refine ctN_of (cc := cX4_init) (nL := 1) (lv := [(0, .ref a0)]) hG (by decide) rfl (Nat.le_of_ble_eq_true rfl) rfl ?_
  intro p e s m args below meth c sz ls hini cx w hl
  obtain ⟨hx, hb, hml, hown, hts, hr, hlocks, hK, hA, -, hsx⟩ := id cx
  have hini : meth.name = "<init>" := hini
  have hext := ext_rf (G := G)
  refine lv_aload_n hx hb dX4_init_0 rfl (lv_at hl 0 rfl) ?_
  refine W.objInit hx hb hown (hts (.methodLink RX4 1 objectInit) (List.mem_of_getElem? (i := 1) rfl)) (hts (.instanceMethod objectInit) (List.mem_of_getElem? (i := 2) rfl)) (hts _ (List.mem_of_getElem? (i := 3) rfl)) rfl (by rw [hml]; exact hl.1) rfl dX4_init_1 (Nat.le_of_ble_eq_true rfl) (Nat.le_of_ble_eq_true rfl) ?_
  refine W.eq (g2 := F0 m 4 ls []) rfl ?_
  refine lv_aload_n hx hb dX4_init_4 rfl (lv_at hl 0 rfl) ?_
  refine lv_bipush (v := (64 : Int32)) hx hb dX4_init_5 (by decide) ?_
  refine r_newI (N := 64) cx w (List.mem_of_getElem? (i := 4) rfl) (by decide) (by decide) (Nat.le_of_ble_eq_true rfl) (Nat.le_of_ble_eq_true rfl) (Nat.le_of_ble_eq_true rfl) dX4_init_7 (fun q1 H nq1 w cx => ?_)
  obtain ⟨G2, eG2⟩ : ∃ z, z = gNw G q1 12 64 := ⟨_, rfl⟩
  obtain ⟨M3, eM3⟩ : ∃ z, z = wZ M q1 := ⟨_, rfl⟩
  rw [← eG2] at cx
  rw [← eG2, ← eM3] at w
  have h := h q1 nq1 G2 eG2 M3 eM3
  have xG2 := ext_nw eG2 nq1
  have hKa0 := ext_K xG2 hLa0 hKa0
  have hLa0 := ext_L xG2 hLa0
  have hext := ext_tr hext xG2
  have hLq1 := nw_Lq eG2
  have hKq1 := nw_Kq eG2
  refine r_putRF (k := 0) cx w tyX4 tyX4_ok nmX4 hLa0 hKa0 (by decide) rfl wk_X4_init_X4 (by decide) rfl hini rfl (tyX4_ok 0 (by decide)) rfl rfl sr_3_0 (ln_3 _ _ (by decide)) hLq1 (by rw [hKq1]; rfl) (List.mem_of_getElem? (i := 5) rfl) dX4_init_9 (fun H locs w cx => ?_)
  obtain ⟨G4, eG4⟩ : ∃ z, z = gSt G2 a0 0 q1 := ⟨_, rfl⟩
  rw [← eG4] at w cx
  have h := h G4 eG4
  have xG4 := ext_st eG4
  have hKa0 := ext_K xG4 hLa0 hKa0
  have hLa0 := ext_L xG4 hLa0
  have hKq1 := ext_K xG4 hLq1 hKq1
  have hLq1 := ext_L xG4 hLq1
  have hext := ext_tr hext xG4
  exact r_vretN cx w h hext (Nat.le_of_ble_eq_true rfl) (Nat.le_of_ble_eq_true rfl) dX4_init_12
theorem wk_X5_init_X4 : ∀ w ∈ wsX40, w ∈ wsX5_init := by decide +kernel
theorem wk_X5_init_X5 : ∀ w ∈ wsX50, w ∈ wsX5_init := by decide +kernel
abbrev rnX5_init : Room := { frames := 2, cells := 2, slots := 66, locals := 80 }
def n_X5_init (G : gS) (M : mS) (a0 : Nat) (a1 : Nat) (post : gS → mS → Prop) : Prop := ∀ q1, q1 ∉ gL G → ∀ G2, G2 = gNw G q1 3 0 → ∀ M3, M3 = wZ M q1 → (n_X4_init G2 M3 q1 (fun G4 M5 => ∀ G6, G6 = gSt G4 a0 1 q1 → (∀ G7, G7 = gSt G6 a0 0 a1 → (post G7 M5))))
set_option maxHeartbeats 4000000 in
set_option maxRecDepth 100000 in
theorem kn_X5_init {l : Launch} {D : va_G} {cy : cyS} {G : gS} {M : mS} {post : gS → mS → Prop} {a0 : Nat} {a1 : Nat} (hG : wt G) (hLa0 : a0 ∈ gL G) (hKa0 : gK G a0 = 4) (hLa1 : a1 ∈ gL G) (hKa1 : gK G a1 = 2) (h : n_X5_init G M a0 a1 post) : ctN l yX5_init wsX5_init rnX5_init D cy G M [.ref a0, .ref a1] 2 66 post := by
  unfold n_X5_init at h
  refine ctN_of (cc := cX5_init) (nL := 2) (lv := [(0, .ref a0), (1, .ref a1)]) hG (by decide) rfl (Nat.le_of_ble_eq_true rfl) rfl ?_
  intro p e s m args below meth c sz ls hini cx w hl
  obtain ⟨hx, hb, hml, hown, hts, hr, hlocks, hK, hA, -, hsx⟩ := id cx
  have hini : meth.name = "<init>" := hini
  have hext := ext_rf (G := G)
  refine lv_aload_n hx hb dX5_init_0 rfl (lv_at hl 0 rfl) ?_
  refine W.objInit hx hb hown (hts (.methodLink RX5 1 objectInit) (List.mem_of_getElem? (i := 1) rfl)) (hts (.instanceMethod objectInit) (List.mem_of_getElem? (i := 2) rfl)) (hts _ (List.mem_of_getElem? (i := 3) rfl)) rfl (by rw [hml]; exact hl.1) rfl dX5_init_1 (Nat.le_of_ble_eq_true rfl) (Nat.le_of_ble_eq_true rfl) ?_
  refine W.eq (g2 := F0 m 4 ls []) rfl ?_
  refine lv_aload_n hx hb dX5_init_4 rfl (lv_at hl 0 rfl) ?_
  refine r_newO cx w tyX4 tyX4_ok rfl (by decide) wk_X5_init_X4 (List.mem_of_getElem? (i := 4) rfl) (List.mem_of_getElem? (i := 5) rfl) (List.mem_of_getElem? (i := 6) rfl) df_3 (Nat.le_of_ble_eq_true rfl) (Nat.le_of_ble_eq_true rfl) dX5_init_5 (fun q1 H nq1 w cx => ?_)
  obtain ⟨G2, eG2⟩ : ∃ z, z = gNw G q1 3 0 := ⟨_, rfl⟩
  obtain ⟨M3, eM3⟩ : ∃ z, z = wZ M q1 := ⟨_, rfl⟩
  rw [← eG2] at cx
  rw [← eG2, ← eM3] at w
  have h := h q1 nq1 G2 eG2 M3 eM3
  have xG2 := ext_nw eG2 nq1
  have hKa0 := ext_K xG2 hLa0 hKa0
  have hLa0 := ext_L xG2 hLa0
  have hKa1 := ext_K xG2 hLa1 hKa1
  have hLa1 := ext_L xG2 hLa1
  have hext := ext_tr hext xG2
  have hLq1 := nw_Lq eG2
  have hKq1 := nw_Kq eG2
  refine lv_dup hx hb dX5_init_8 rfl ?_
  refine r_callNN (As := []) (rest := [.ref q1, .ref a0]) cx w ⟨Nat.le_of_ble_eq_true rfl, Nat.le_of_ble_eq_true rfl⟩ hl.1 (kn_X4_init (cX_wt cx) hLq1 hKq1 h) ⟨va_cnB 0 hts gX5_init_X4_init_n9 rfl rfl rfl (nwM cx (q := (RX5, 9, yX4_init, "FlagAnts")) (List.mem_of_getElem? (i := 3) rfl)) (hts _ (List.mem_of_getElem? (i := 6) rfl)) (by decide +kernel) ⟨Nat.le_of_ble_eq_true rfl, Nat.le_of_ble_eq_true rfl⟩, rfl, hts _ (List.mem_of_getElem? (i := 9) rfl)⟩ rfl rfl (Nat.le_of_ble_eq_true rfl) dX5_init_9 (fun G4 M5 H locs h xG4 cx w => ?_)
  have hKa0 := ext_K xG4 hLa0 hKa0
  have hLa0 := ext_L xG4 hLa0
  have hKa1 := ext_K xG4 hLa1 hKa1
  have hLa1 := ext_L xG4 hLa1
  have hKq1 := ext_K xG4 hLq1 hKq1
  have hLq1 := ext_L xG4 hLq1
  have hext := ext_tr hext xG4
  refine r_putRF (k := 1) cx w tyX5 tyX5_ok nmX5 hLa0 hKa0 (by decide) rfl wk_X5_init_X5 (by decide) rfl hini rfl (tyX5_ok 1 (by decide)) rfl rfl sr_4_1 (ln_4 _ _ (by decide)) hLq1 (by rw [hKq1]; rfl) (List.mem_of_getElem? (i := 7) rfl) dX5_init_12 (fun H locs w cx => ?_)
  obtain ⟨G6, eG6⟩ : ∃ z, z = gSt G4 a0 1 q1 := ⟨_, rfl⟩
  rw [← eG6] at w cx
  have h := h G6 eG6
  have xG6 := ext_st eG6
  have hKa0 := ext_K xG6 hLa0 hKa0
  have hLa0 := ext_L xG6 hLa0
  have hKa1 := ext_K xG6 hLa1 hKa1
  have hLa1 := ext_L xG6 hLa1
  have hKq1 := ext_K xG6 hLq1 hKq1
  have hLq1 := ext_L xG6 hLq1
  have hext := ext_tr hext xG6
  refine lv_aload_n hx hb dX5_init_15 rfl (lv_at hl 0 rfl) ?_
  refine lv_aload_n hx hb dX5_init_16 rfl (lv_at hl 1 rfl) ?_
  refine r_putRF (k := 0) cx w tyX5 tyX5_ok nmX5 hLa0 hKa0 (by decide) rfl wk_X5_init_X5 (by decide) rfl hini rfl (tyX5_ok 0 (by decide)) rfl rfl sr_4_0 (ln_4 _ _ (by decide)) hLa1 (by rw [hKa1]; rfl) (List.mem_of_getElem? (i := 8) rfl) dX5_init_17 (fun H locs w cx => ?_)
  obtain ⟨G7, eG7⟩ : ∃ z, z = gSt G6 a0 0 a1 := ⟨_, rfl⟩
  rw [← eG7] at w cx
  have h := h G7 eG7
  have xG7 := ext_st eG7
  have hKa0 := ext_K xG7 hLa0 hKa0
  have hLa0 := ext_L xG7 hLa0
  have hKa1 := ext_K xG7 hLa1 hKa1
  have hLa1 := ext_L xG7 hLa1
  have hKq1 := ext_K xG7 hLq1 hKq1
  have hLq1 := ext_L xG7 hLq1
  have hext := ext_tr hext xG7
  exact r_vretN cx w h hext (Nat.le_of_ble_eq_true rfl) (Nat.le_of_ble_eq_true rfl) dX5_init_20
theorem wk_X7_init_X7 : ∀ w ∈ wsX70, w ∈ wsX7_init := by decide +kernel
abbrev rnX7_init : Room := { frames := 5, cells := 4, slots := 1236, locals := 110 }
def n_X7_init (G : gS) (M : mS) (a0 : Nat) (a1 : Nat) (post : gS → mS → Prop) : Prop := ∀ q1, q1 ∉ gL G → ∀ G2, G2 = gNw G q1 13 33 → ∀ M3, M3 = wZ M q1 → (∀ G4, G4 = gSt G2 a0 1 q1 → (∀ q5, q5 ∉ gL G4 → ∀ G6, G6 = gNw G4 q5 12 401 → ∀ M7, M7 = wZ M3 q5 → (∀ G8, G8 = gSt G6 a0 2 q5 → (∀ q9, q9 ∉ gL G8 → ∀ G10, G10 = gNw G8 q9 12 401 → ∀ M11, M11 = wZ M7 q9 → (∀ G12, G12 = gSt G10 a0 3 q9 → (∀ q13, q13 ∉ gL G12 → ∀ G14, G14 = gNw G12 q13 13 401 → ∀ M15, M15 = wZ M11 q13 → (∀ G16, G16 = gSt G14 a0 4 q13 → (∀ G17, G17 = gSt G16 a0 0 a1 → (∃ M18, m_X7_packWords G17 M15 a0 = some (M18, ()) ∧ (post G17 M18))))))))))
set_option maxHeartbeats 4000000 in
set_option maxRecDepth 100000 in
theorem kn_X7_init {l : Launch} {D : va_G} {cy : cyS} {G : gS} {M : mS} {post : gS → mS → Prop} {a0 : Nat} {a1 : Nat} (hG : wt G) (hLa0 : a0 ∈ gL G) (hKa0 : gK G a0 = 6) (hLa1 : a1 ∈ gL G) (hKa1 : gK G a1 = 5) (h : n_X7_init G M a0 a1 post) : ctN l yX7_init wsX7_init rnX7_init D cy G M [.ref a0, .ref a1] 4 1236 post := by
  unfold n_X7_init at h
  refine ctN_of (cc := cX7_init) (nL := 2) (lv := [(0, .ref a0), (1, .ref a1)]) hG (by decide) rfl (Nat.le_of_ble_eq_true rfl) rfl ?_
  intro p e s m args below meth c sz ls hini cx w hl
  obtain ⟨hx, hb, hml, hown, hts, hr, hlocks, hK, hA, -, hsx⟩ := id cx
  have hini : meth.name = "<init>" := hini
  have hext := ext_rf (G := G)
  refine lv_aload_n hx hb dX7_init_0 rfl (lv_at hl 0 rfl) ?_
  refine W.objInit hx hb hown (hts (.methodLink RX7 1 objectInit) (List.mem_of_getElem? (i := 1) rfl)) (hts (.instanceMethod objectInit) (List.mem_of_getElem? (i := 2) rfl)) (hts _ (List.mem_of_getElem? (i := 3) rfl)) rfl (by rw [hml]; exact hl.1) rfl dX7_init_1 (Nat.le_of_ble_eq_true rfl) (Nat.le_of_ble_eq_true rfl) ?_
  refine W.eq (g2 := F0 m 4 ls []) rfl ?_
  refine lv_aload_n hx hb dX7_init_4 rfl (lv_at hl 0 rfl) ?_
  refine lv_bipush (v := (33 : Int32)) hx hb dX7_init_5 (by decide) ?_
  refine r_newJ (N := 33) cx w (List.mem_of_getElem? (i := 4) rfl) (by decide) (by decide) (Nat.le_of_ble_eq_true rfl) (Nat.le_of_ble_eq_true rfl) (Nat.le_of_ble_eq_true rfl) dX7_init_7 (fun q1 H nq1 w cx => ?_)
  obtain ⟨G2, eG2⟩ : ∃ z, z = gNw G q1 13 33 := ⟨_, rfl⟩
  obtain ⟨M3, eM3⟩ : ∃ z, z = wZ M q1 := ⟨_, rfl⟩
  rw [← eG2] at cx
  rw [← eG2, ← eM3] at w
  have h := h q1 nq1 G2 eG2 M3 eM3
  have xG2 := ext_nw eG2 nq1
  have hKa0 := ext_K xG2 hLa0 hKa0
  have hLa0 := ext_L xG2 hLa0
  have hKa1 := ext_K xG2 hLa1 hKa1
  have hLa1 := ext_L xG2 hLa1
  have hext := ext_tr hext xG2
  have hLq1 := nw_Lq eG2
  have hKq1 := nw_Kq eG2
  refine r_putRF (k := 1) cx w tyX7 tyX7_ok nmX7 hLa0 hKa0 (by decide) rfl wk_X7_init_X7 (by decide) rfl hini rfl (tyX7_ok 1 (by decide)) rfl rfl sr_6_1 (ln_6 _ _ (by decide)) hLq1 (by rw [hKq1]; rfl) (List.mem_of_getElem? (i := 5) rfl) dX7_init_9 (fun H locs w cx => ?_)
  obtain ⟨G4, eG4⟩ : ∃ z, z = gSt G2 a0 1 q1 := ⟨_, rfl⟩
  rw [← eG4] at w cx
  have h := h G4 eG4
  have xG4 := ext_st eG4
  have hKa0 := ext_K xG4 hLa0 hKa0
  have hLa0 := ext_L xG4 hLa0
  have hKa1 := ext_K xG4 hLa1 hKa1
  have hLa1 := ext_L xG4 hLa1
  have hKq1 := ext_K xG4 hLq1 hKq1
  have hLq1 := ext_L xG4 hLq1
  have hext := ext_tr hext xG4
  refine lv_aload_n hx hb dX7_init_12 rfl (lv_at hl 0 rfl) ?_
  refine lv_sipush (v := (401 : Int32)) hx hb dX7_init_13 (by decide) ?_
  refine r_newI (N := 401) cx w (List.mem_of_getElem? (i := 6) rfl) (by decide) (by decide) (Nat.le_of_ble_eq_true rfl) (Nat.le_of_ble_eq_true rfl) (Nat.le_of_ble_eq_true rfl) dX7_init_16 (fun q5 H nq5 w cx => ?_)
  obtain ⟨G6, eG6⟩ : ∃ z, z = gNw G4 q5 12 401 := ⟨_, rfl⟩
  obtain ⟨M7, eM7⟩ : ∃ z, z = wZ M3 q5 := ⟨_, rfl⟩
  rw [← eG6] at cx
  rw [← eG6, ← eM7] at w
  have h := h q5 nq5 G6 eG6 M7 eM7
  have xG6 := ext_nw eG6 nq5
  have hKa0 := ext_K xG6 hLa0 hKa0
  have hLa0 := ext_L xG6 hLa0
  have hKa1 := ext_K xG6 hLa1 hKa1
  have hLa1 := ext_L xG6 hLa1
  have hKq1 := ext_K xG6 hLq1 hKq1
  have hLq1 := ext_L xG6 hLq1
  have hext := ext_tr hext xG6
  have hLq5 := nw_Lq eG6
  have hKq5 := nw_Kq eG6
  refine r_putRF (k := 2) cx w tyX7 tyX7_ok nmX7 hLa0 hKa0 (by decide) rfl wk_X7_init_X7 (by decide) rfl hini rfl (tyX7_ok 2 (by decide)) rfl rfl sr_6_2 (ln_6 _ _ (by decide)) hLq5 (by rw [hKq5]; rfl) (List.mem_of_getElem? (i := 7) rfl) dX7_init_18 (fun H locs w cx => ?_)
  obtain ⟨G8, eG8⟩ : ∃ z, z = gSt G6 a0 2 q5 := ⟨_, rfl⟩
  rw [← eG8] at w cx
  have h := h G8 eG8
  have xG8 := ext_st eG8
  have hKa0 := ext_K xG8 hLa0 hKa0
  have hLa0 := ext_L xG8 hLa0
  have hKa1 := ext_K xG8 hLa1 hKa1
  have hLa1 := ext_L xG8 hLa1
  have hKq1 := ext_K xG8 hLq1 hKq1
  have hLq1 := ext_L xG8 hLq1
  have hKq5 := ext_K xG8 hLq5 hKq5
  have hLq5 := ext_L xG8 hLq5
  have hext := ext_tr hext xG8
  refine lv_aload_n hx hb dX7_init_21 rfl (lv_at hl 0 rfl) ?_
  refine lv_sipush (v := (401 : Int32)) hx hb dX7_init_22 (by decide) ?_
  refine r_newI (N := 401) cx w (List.mem_of_getElem? (i := 6) rfl) (by decide) (by decide) (Nat.le_of_ble_eq_true rfl) (Nat.le_of_ble_eq_true rfl) (Nat.le_of_ble_eq_true rfl) dX7_init_25 (fun q9 H nq9 w cx => ?_)
  obtain ⟨G10, eG10⟩ : ∃ z, z = gNw G8 q9 12 401 := ⟨_, rfl⟩
  obtain ⟨M11, eM11⟩ : ∃ z, z = wZ M7 q9 := ⟨_, rfl⟩
  rw [← eG10] at cx
  rw [← eG10, ← eM11] at w
  have h := h q9 nq9 G10 eG10 M11 eM11
  have xG10 := ext_nw eG10 nq9
  have hKa0 := ext_K xG10 hLa0 hKa0
  have hLa0 := ext_L xG10 hLa0
  have hKa1 := ext_K xG10 hLa1 hKa1
  have hLa1 := ext_L xG10 hLa1
  have hKq1 := ext_K xG10 hLq1 hKq1
  have hLq1 := ext_L xG10 hLq1
  have hKq5 := ext_K xG10 hLq5 hKq5
  have hLq5 := ext_L xG10 hLq5
  have hext := ext_tr hext xG10
  have hLq9 := nw_Lq eG10
  have hKq9 := nw_Kq eG10
  refine r_putRF (k := 3) cx w tyX7 tyX7_ok nmX7 hLa0 hKa0 (by decide) rfl wk_X7_init_X7 (by decide) rfl hini rfl (tyX7_ok 3 (by decide)) rfl rfl sr_6_3 (ln_6 _ _ (by decide)) hLq9 (by rw [hKq9]; rfl) (List.mem_of_getElem? (i := 8) rfl) dX7_init_27 (fun H locs w cx => ?_)
  obtain ⟨G12, eG12⟩ : ∃ z, z = gSt G10 a0 3 q9 := ⟨_, rfl⟩
  rw [← eG12] at w cx
  have h := h G12 eG12
  have xG12 := ext_st eG12
  have hKa0 := ext_K xG12 hLa0 hKa0
  have hLa0 := ext_L xG12 hLa0
  have hKa1 := ext_K xG12 hLa1 hKa1
  have hLa1 := ext_L xG12 hLa1
  have hKq1 := ext_K xG12 hLq1 hKq1
  have hLq1 := ext_L xG12 hLq1
  have hKq5 := ext_K xG12 hLq5 hKq5
  have hLq5 := ext_L xG12 hLq5
  have hKq9 := ext_K xG12 hLq9 hKq9
  have hLq9 := ext_L xG12 hLq9
  have hext := ext_tr hext xG12
  refine lv_aload_n hx hb dX7_init_30 rfl (lv_at hl 0 rfl) ?_
  refine lv_sipush (v := (401 : Int32)) hx hb dX7_init_31 (by decide) ?_
  refine r_newJ (N := 401) cx w (List.mem_of_getElem? (i := 4) rfl) (by decide) (by decide) (Nat.le_of_ble_eq_true rfl) (Nat.le_of_ble_eq_true rfl) (Nat.le_of_ble_eq_true rfl) dX7_init_34 (fun q13 H nq13 w cx => ?_)
  obtain ⟨G14, eG14⟩ : ∃ z, z = gNw G12 q13 13 401 := ⟨_, rfl⟩
  obtain ⟨M15, eM15⟩ : ∃ z, z = wZ M11 q13 := ⟨_, rfl⟩
  rw [← eG14] at cx
  rw [← eG14, ← eM15] at w
  have h := h q13 nq13 G14 eG14 M15 eM15
  have xG14 := ext_nw eG14 nq13
  have hKa0 := ext_K xG14 hLa0 hKa0
  have hLa0 := ext_L xG14 hLa0
  have hKa1 := ext_K xG14 hLa1 hKa1
  have hLa1 := ext_L xG14 hLa1
  have hKq1 := ext_K xG14 hLq1 hKq1
  have hLq1 := ext_L xG14 hLq1
  have hKq5 := ext_K xG14 hLq5 hKq5
  have hLq5 := ext_L xG14 hLq5
  have hKq9 := ext_K xG14 hLq9 hKq9
  have hLq9 := ext_L xG14 hLq9
  have hext := ext_tr hext xG14
  have hLq13 := nw_Lq eG14
  have hKq13 := nw_Kq eG14
  refine r_putRF (k := 4) cx w tyX7 tyX7_ok nmX7 hLa0 hKa0 (by decide) rfl wk_X7_init_X7 (by decide) rfl hini rfl (tyX7_ok 4 (by decide)) rfl rfl sr_6_4 (ln_6 _ _ (by decide)) hLq13 (by rw [hKq13]; rfl) (List.mem_of_getElem? (i := 9) rfl) dX7_init_36 (fun H locs w cx => ?_)
  obtain ⟨G16, eG16⟩ : ∃ z, z = gSt G14 a0 4 q13 := ⟨_, rfl⟩
  rw [← eG16] at w cx
  have h := h G16 eG16
  have xG16 := ext_st eG16
  have hKa0 := ext_K xG16 hLa0 hKa0
  have hLa0 := ext_L xG16 hLa0
  have hKa1 := ext_K xG16 hLa1 hKa1
  have hLa1 := ext_L xG16 hLa1
  have hKq1 := ext_K xG16 hLq1 hKq1
  have hLq1 := ext_L xG16 hLq1
  have hKq5 := ext_K xG16 hLq5 hKq5
  have hLq5 := ext_L xG16 hLq5
  have hKq9 := ext_K xG16 hLq9 hKq9
  have hLq9 := ext_L xG16 hLq9
  have hKq13 := ext_K xG16 hLq13 hKq13
  have hLq13 := ext_L xG16 hLq13
  have hext := ext_tr hext xG16
  refine lv_aload_n hx hb dX7_init_39 rfl (lv_at hl 0 rfl) ?_
  refine lv_aload_n hx hb dX7_init_40 rfl (lv_at hl 1 rfl) ?_
  refine r_putRF (k := 0) cx w tyX7 tyX7_ok nmX7 hLa0 hKa0 (by decide) rfl wk_X7_init_X7 (by decide) rfl hini rfl (tyX7_ok 0 (by decide)) rfl rfl sr_6_0 (ln_6 _ _ (by decide)) hLa1 (by rw [hKa1]; rfl) (List.mem_of_getElem? (i := 10) rfl) dX7_init_41 (fun H locs w cx => ?_)
  obtain ⟨G17, eG17⟩ : ∃ z, z = gSt G16 a0 0 a1 := ⟨_, rfl⟩
  rw [← eG17] at w cx
  have h := h G17 eG17
  have xG17 := ext_st eG17
  have hKa0 := ext_K xG17 hLa0 hKa0
  have hLa0 := ext_L xG17 hLa0
  have hKa1 := ext_K xG17 hLa1 hKa1
  have hLa1 := ext_L xG17 hLa1
  have hKq1 := ext_K xG17 hLq1 hKq1
  have hLq1 := ext_L xG17 hLq1
  have hKq5 := ext_K xG17 hLq5 hKq5
  have hLq5 := ext_L xG17 hLq5
  have hKq9 := ext_K xG17 hLq9 hKq9
  have hLq9 := ext_L xG17 hLq9
  have hKq13 := ext_K xG17 hLq13 hKq13
  have hLq13 := ext_L xG17 hLq13
  have hext := ext_tr hext xG17
  refine lv_aload_n hx hb dX7_init_44 rfl (lv_at hl 0 rfl) ?_
  obtain ⟨M18, yM18, h⟩ := h
  refine r_callVv (As := []) (rest := []) cx w ⟨Nat.le_of_ble_eq_true rfl, Nat.le_of_ble_eq_true rfl⟩ hl.1 (k_X7_packWords (cX_wt cx) hLa0 hKa0 yM18) (cwV 0 hts gX7_init_X7_packWords rfl rfl rfl (by decide +kernel) ⟨Nat.le_of_ble_eq_true rfl, Nat.le_of_ble_eq_true rfl⟩) hLa0 hKa0 (by decide) rfl rfl rfl (Nat.le_of_ble_eq_true rfl) dX7_init_45 (fun H locs w => ?_)
  exact r_vretN cx w h hext (Nat.le_of_ble_eq_true rfl) (Nat.le_of_ble_eq_true rfl) dX7_init_48
theorem wk_X2_init_X2 : ∀ w ∈ wsX20, w ∈ wsX2_init := by decide +kernel
theorem wk_X2_init_X3 : ∀ w ∈ wsX30, w ∈ wsX2_init := by decide +kernel
theorem wk_X2_init_X7 : ∀ w ∈ wsX70, w ∈ wsX2_init := by decide +kernel
abbrev rnX2_init : Room := { frames := 6, cells := 16, slots := 2179, locals := 131 }
def n_X2_init (G : gS) (M : mS) (a0 : Nat) (a1 : Nat) (a2 : Nat) (post : gS → mS → Prop) : Prop := ∀ q1, q1 ∉ gL G → ∀ G2, G2 = gNw G q1 13 5 → ∀ M3, M3 = wZ M q1 → (∀ G4, G4 = gSt G2 a0 3 q1 → (∀ q5, q5 ∉ gL G4 → ∀ G6, G6 = gNw G4 q5 13 6 → ∀ M7, M7 = wZ M3 q5 → (∀ G8, G8 = gSt G6 a0 4 q5 → (∀ q9, q9 ∉ gL G8 → ∀ G10, G10 = gNw G8 q9 6 0 → ∀ M11, M11 = wZ M7 q9 → (n_X7_init G10 M11 q9 a1 (fun G12 M13 => ∀ G14, G14 = gSt G12 a0 0 q9 → (∀ q15, q15 ∉ gL G14 → ∀ G16, G16 = gNw G14 q15 2 0 → ∀ M17, M17 = wZ M13 q15 → (n_X3_init G16 M17 q15 (fun G18 M19 => ∀ G20, G20 = gSt G18 a0 1 q15 → (∀ G21, G21 = gSt G20 a0 2 a2 → (post G21 M19)))))))))))
set_option maxHeartbeats 4000000 in
set_option maxRecDepth 100000 in
theorem kn_X2_init {l : Launch} {D : va_G} {cy : cyS} {G : gS} {M : mS} {post : gS → mS → Prop} {a0 : Nat} {a1 : Nat} {a2 : Nat} (hG : wt G) (hLa0 : a0 ∈ gL G) (hKa0 : gK G a0 = 1) (hLa1 : a1 ∈ gL G) (hKa1 : gK G a1 = 5) (hLa2 : a2 ∈ gL G) (hKa2 : gK G a2 = 7) (h : n_X2_init G M a0 a1 a2 post) : ctN l yX2_init wsX2_init rnX2_init D cy G M [.ref a0, .ref a1, .ref a2] 16 2179 post := by
  unfold n_X2_init at h
  refine ctN_of (cc := cX2_init) (nL := 3) (lv := [(0, .ref a0), (1, .ref a1), (2, .ref a2)]) hG (by decide) rfl (Nat.le_of_ble_eq_true rfl) rfl ?_
  intro p e s m args below meth c sz ls hini cx w hl
  obtain ⟨hx, hb, hml, hown, hts, hr, hlocks, hK, hA, -, hsx⟩ := id cx
  have hini : meth.name = "<init>" := hini
  have hext := ext_rf (G := G)
  refine lv_aload_n hx hb dX2_init_0 rfl (lv_at hl 0 rfl) ?_
  refine W.objInit hx hb hown (hts (.methodLink RX2 3 objectInit) (List.mem_of_getElem? (i := 1) rfl)) (hts (.instanceMethod objectInit) (List.mem_of_getElem? (i := 2) rfl)) (hts _ (List.mem_of_getElem? (i := 3) rfl)) rfl (by rw [hml]; exact hl.1) rfl dX2_init_1 (Nat.le_of_ble_eq_true rfl) (Nat.le_of_ble_eq_true rfl) ?_
  refine W.eq (g2 := F0 m 4 ls []) rfl ?_
  refine lv_aload_n hx hb dX2_init_4 rfl (lv_at hl 0 rfl) ?_
  refine lv_iconst (v := (5 : Int32)) hx hb dX2_init_5 (by decide) ?_
  refine r_newJ (N := 5) cx w (List.mem_of_getElem? (i := 4) rfl) (by decide) (by decide) (Nat.le_of_ble_eq_true rfl) (Nat.le_of_ble_eq_true rfl) (Nat.le_of_ble_eq_true rfl) dX2_init_6 (fun q1 H nq1 w cx => ?_)
  obtain ⟨G2, eG2⟩ : ∃ z, z = gNw G q1 13 5 := ⟨_, rfl⟩
  obtain ⟨M3, eM3⟩ : ∃ z, z = wZ M q1 := ⟨_, rfl⟩
  rw [← eG2] at cx
  rw [← eG2, ← eM3] at w
  have h := h q1 nq1 G2 eG2 M3 eM3
  have xG2 := ext_nw eG2 nq1
  have hKa0 := ext_K xG2 hLa0 hKa0
  have hLa0 := ext_L xG2 hLa0
  have hKa1 := ext_K xG2 hLa1 hKa1
  have hLa1 := ext_L xG2 hLa1
  have hKa2 := ext_K xG2 hLa2 hKa2
  have hLa2 := ext_L xG2 hLa2
  have hext := ext_tr hext xG2
  have hLq1 := nw_Lq eG2
  have hKq1 := nw_Kq eG2
  refine r_putRF (k := 3) cx w tyX2 tyX2_ok nmX2 hLa0 hKa0 (by decide) rfl wk_X2_init_X2 (by decide) rfl hini rfl (tyX2_ok 3 (by decide)) rfl rfl sr_1_3 (ln_1 _ _ (by decide)) hLq1 (by rw [hKq1]; rfl) (List.mem_of_getElem? (i := 5) rfl) dX2_init_8 (fun H locs w cx => ?_)
  obtain ⟨G4, eG4⟩ : ∃ z, z = gSt G2 a0 3 q1 := ⟨_, rfl⟩
  rw [← eG4] at w cx
  have h := h G4 eG4
  have xG4 := ext_st eG4
  have hKa0 := ext_K xG4 hLa0 hKa0
  have hLa0 := ext_L xG4 hLa0
  have hKa1 := ext_K xG4 hLa1 hKa1
  have hLa1 := ext_L xG4 hLa1
  have hKa2 := ext_K xG4 hLa2 hKa2
  have hLa2 := ext_L xG4 hLa2
  have hKq1 := ext_K xG4 hLq1 hKq1
  have hLq1 := ext_L xG4 hLq1
  have hext := ext_tr hext xG4
  refine lv_aload_n hx hb dX2_init_11 rfl (lv_at hl 0 rfl) ?_
  refine lv_bipush (v := (6 : Int32)) hx hb dX2_init_12 (by decide) ?_
  refine r_newJ (N := 6) cx w (List.mem_of_getElem? (i := 4) rfl) (by decide) (by decide) (Nat.le_of_ble_eq_true rfl) (Nat.le_of_ble_eq_true rfl) (Nat.le_of_ble_eq_true rfl) dX2_init_14 (fun q5 H nq5 w cx => ?_)
  obtain ⟨G6, eG6⟩ : ∃ z, z = gNw G4 q5 13 6 := ⟨_, rfl⟩
  obtain ⟨M7, eM7⟩ : ∃ z, z = wZ M3 q5 := ⟨_, rfl⟩
  rw [← eG6] at cx
  rw [← eG6, ← eM7] at w
  have h := h q5 nq5 G6 eG6 M7 eM7
  have xG6 := ext_nw eG6 nq5
  have hKa0 := ext_K xG6 hLa0 hKa0
  have hLa0 := ext_L xG6 hLa0
  have hKa1 := ext_K xG6 hLa1 hKa1
  have hLa1 := ext_L xG6 hLa1
  have hKa2 := ext_K xG6 hLa2 hKa2
  have hLa2 := ext_L xG6 hLa2
  have hKq1 := ext_K xG6 hLq1 hKq1
  have hLq1 := ext_L xG6 hLq1
  have hext := ext_tr hext xG6
  have hLq5 := nw_Lq eG6
  have hKq5 := nw_Kq eG6
  refine r_putRF (k := 4) cx w tyX2 tyX2_ok nmX2 hLa0 hKa0 (by decide) rfl wk_X2_init_X2 (by decide) rfl hini rfl (tyX2_ok 4 (by decide)) rfl rfl sr_1_4 (ln_1 _ _ (by decide)) hLq5 (by rw [hKq5]; rfl) (List.mem_of_getElem? (i := 6) rfl) dX2_init_16 (fun H locs w cx => ?_)
  obtain ⟨G8, eG8⟩ : ∃ z, z = gSt G6 a0 4 q5 := ⟨_, rfl⟩
  rw [← eG8] at w cx
  have h := h G8 eG8
  have xG8 := ext_st eG8
  have hKa0 := ext_K xG8 hLa0 hKa0
  have hLa0 := ext_L xG8 hLa0
  have hKa1 := ext_K xG8 hLa1 hKa1
  have hLa1 := ext_L xG8 hLa1
  have hKa2 := ext_K xG8 hLa2 hKa2
  have hLa2 := ext_L xG8 hLa2
  have hKq1 := ext_K xG8 hLq1 hKq1
  have hLq1 := ext_L xG8 hLq1
  have hKq5 := ext_K xG8 hLq5 hKq5
  have hLq5 := ext_L xG8 hLq5
  have hext := ext_tr hext xG8
  refine lv_aload_n hx hb dX2_init_19 rfl (lv_at hl 0 rfl) ?_
  refine r_newO cx w tyX7 tyX7_ok rfl (by decide) wk_X2_init_X7 (List.mem_of_getElem? (i := 7) rfl) (List.mem_of_getElem? (i := 8) rfl) (List.mem_of_getElem? (i := 9) rfl) df_6 (Nat.le_of_ble_eq_true rfl) (Nat.le_of_ble_eq_true rfl) dX2_init_20 (fun q9 H nq9 w cx => ?_)
  obtain ⟨G10, eG10⟩ : ∃ z, z = gNw G8 q9 6 0 := ⟨_, rfl⟩
  obtain ⟨M11, eM11⟩ : ∃ z, z = wZ M7 q9 := ⟨_, rfl⟩
  rw [← eG10] at cx
  rw [← eG10, ← eM11] at w
  have h := h q9 nq9 G10 eG10 M11 eM11
  have xG10 := ext_nw eG10 nq9
  have hKa0 := ext_K xG10 hLa0 hKa0
  have hLa0 := ext_L xG10 hLa0
  have hKa1 := ext_K xG10 hLa1 hKa1
  have hLa1 := ext_L xG10 hLa1
  have hKa2 := ext_K xG10 hLa2 hKa2
  have hLa2 := ext_L xG10 hLa2
  have hKq1 := ext_K xG10 hLq1 hKq1
  have hLq1 := ext_L xG10 hLq1
  have hKq5 := ext_K xG10 hLq5 hKq5
  have hLq5 := ext_L xG10 hLq5
  have hext := ext_tr hext xG10
  have hLq9 := nw_Lq eG10
  have hKq9 := nw_Kq eG10
  refine lv_dup hx hb dX2_init_23 rfl ?_
  refine lv_aload_n hx hb dX2_init_24 rfl (lv_at hl 1 rfl) ?_
  refine r_callN (As := [.ref a1]) (rest := [.ref q9, .ref a0]) cx w ⟨Nat.le_of_ble_eq_true rfl, Nat.le_of_ble_eq_true rfl⟩ hl.1 (kn_X7_init (cX_wt cx) hLq9 hKq9 hLa1 hKa1 h) (cwI 1 hts gX2_init_X7_init rfl rfl rfl (hts _ (List.mem_of_getElem? (i := 9) rfl)) (hts _ (List.mem_of_getElem? (i := 16) rfl)) (hts _ (List.mem_of_getElem? (i := 17) rfl)) rfl (by decide +kernel) ⟨Nat.le_of_ble_eq_true rfl, Nat.le_of_ble_eq_true rfl⟩) rfl rfl (Nat.le_of_ble_eq_true rfl) dX2_init_25 (fun G12 M13 H locs h xG12 cx w => ?_)
  have hKa0 := ext_K xG12 hLa0 hKa0
  have hLa0 := ext_L xG12 hLa0
  have hKa1 := ext_K xG12 hLa1 hKa1
  have hLa1 := ext_L xG12 hLa1
  have hKa2 := ext_K xG12 hLa2 hKa2
  have hLa2 := ext_L xG12 hLa2
  have hKq1 := ext_K xG12 hLq1 hKq1
  have hLq1 := ext_L xG12 hLq1
  have hKq5 := ext_K xG12 hLq5 hKq5
  have hLq5 := ext_L xG12 hLq5
  have hKq9 := ext_K xG12 hLq9 hKq9
  have hLq9 := ext_L xG12 hLq9
  have hext := ext_tr hext xG12
  refine r_putRF (k := 0) cx w tyX2 tyX2_ok nmX2 hLa0 hKa0 (by decide) rfl wk_X2_init_X2 (by decide) rfl hini rfl (tyX2_ok 0 (by decide)) rfl rfl sr_1_0 (ln_1 _ _ (by decide)) hLq9 (by rw [hKq9]; rfl) (List.mem_of_getElem? (i := 10) rfl) dX2_init_28 (fun H locs w cx => ?_)
  obtain ⟨G14, eG14⟩ : ∃ z, z = gSt G12 a0 0 q9 := ⟨_, rfl⟩
  rw [← eG14] at w cx
  have h := h G14 eG14
  have xG14 := ext_st eG14
  have hKa0 := ext_K xG14 hLa0 hKa0
  have hLa0 := ext_L xG14 hLa0
  have hKa1 := ext_K xG14 hLa1 hKa1
  have hLa1 := ext_L xG14 hLa1
  have hKa2 := ext_K xG14 hLa2 hKa2
  have hLa2 := ext_L xG14 hLa2
  have hKq1 := ext_K xG14 hLq1 hKq1
  have hLq1 := ext_L xG14 hLq1
  have hKq5 := ext_K xG14 hLq5 hKq5
  have hLq5 := ext_L xG14 hLq5
  have hKq9 := ext_K xG14 hLq9 hKq9
  have hLq9 := ext_L xG14 hLq9
  have hext := ext_tr hext xG14
  refine lv_aload_n hx hb dX2_init_31 rfl (lv_at hl 0 rfl) ?_
  refine r_newO cx w tyX3 tyX3_ok rfl (by decide) wk_X2_init_X3 (List.mem_of_getElem? (i := 11) rfl) (List.mem_of_getElem? (i := 12) rfl) (List.mem_of_getElem? (i := 13) rfl) df_2 (Nat.le_of_ble_eq_true rfl) (Nat.le_of_ble_eq_true rfl) dX2_init_32 (fun q15 H nq15 w cx => ?_)
  obtain ⟨G16, eG16⟩ : ∃ z, z = gNw G14 q15 2 0 := ⟨_, rfl⟩
  obtain ⟨M17, eM17⟩ : ∃ z, z = wZ M13 q15 := ⟨_, rfl⟩
  rw [← eG16] at cx
  rw [← eG16, ← eM17] at w
  have h := h q15 nq15 G16 eG16 M17 eM17
  have xG16 := ext_nw eG16 nq15
  have hKa0 := ext_K xG16 hLa0 hKa0
  have hLa0 := ext_L xG16 hLa0
  have hKa1 := ext_K xG16 hLa1 hKa1
  have hLa1 := ext_L xG16 hLa1
  have hKa2 := ext_K xG16 hLa2 hKa2
  have hLa2 := ext_L xG16 hLa2
  have hKq1 := ext_K xG16 hLq1 hKq1
  have hLq1 := ext_L xG16 hLq1
  have hKq5 := ext_K xG16 hLq5 hKq5
  have hLq5 := ext_L xG16 hLq5
  have hKq9 := ext_K xG16 hLq9 hKq9
  have hLq9 := ext_L xG16 hLq9
  have hext := ext_tr hext xG16
  have hLq15 := nw_Lq eG16
  have hKq15 := nw_Kq eG16
  refine lv_dup hx hb dX2_init_35 rfl ?_
  refine r_callNN (As := []) (rest := [.ref q15, .ref a0]) cx w ⟨Nat.le_of_ble_eq_true rfl, Nat.le_of_ble_eq_true rfl⟩ hl.1 (kn_X3_init (cX_wt cx) hLq15 hKq15 h) ⟨va_cnB 0 hts gX2_init_X3_init_n31 rfl rfl rfl (nwM cx (q := (RX2, 31, yX3_init, "FlagAnts")) (List.mem_of_getElem? (i := 2) rfl)) (hts _ (List.mem_of_getElem? (i := 13) rfl)) (by decide +kernel) ⟨Nat.le_of_ble_eq_true rfl, Nat.le_of_ble_eq_true rfl⟩, rfl, hts _ (List.mem_of_getElem? (i := 86) rfl)⟩ rfl rfl (Nat.le_of_ble_eq_true rfl) dX2_init_36 (fun G18 M19 H locs h xG18 cx w => ?_)
  have hKa0 := ext_K xG18 hLa0 hKa0
  have hLa0 := ext_L xG18 hLa0
  have hKa1 := ext_K xG18 hLa1 hKa1
  have hLa1 := ext_L xG18 hLa1
  have hKa2 := ext_K xG18 hLa2 hKa2
  have hLa2 := ext_L xG18 hLa2
  have hKq1 := ext_K xG18 hLq1 hKq1
  have hLq1 := ext_L xG18 hLq1
  have hKq5 := ext_K xG18 hLq5 hKq5
  have hLq5 := ext_L xG18 hLq5
  have hKq9 := ext_K xG18 hLq9 hKq9
  have hLq9 := ext_L xG18 hLq9
  have hKq15 := ext_K xG18 hLq15 hKq15
  have hLq15 := ext_L xG18 hLq15
  have hext := ext_tr hext xG18
  refine r_putRF (k := 1) cx w tyX2 tyX2_ok nmX2 hLa0 hKa0 (by decide) rfl wk_X2_init_X2 (by decide) rfl hini rfl (tyX2_ok 1 (by decide)) rfl rfl sr_1_1 (ln_1 _ _ (by decide)) hLq15 (by rw [hKq15]; rfl) (List.mem_of_getElem? (i := 14) rfl) dX2_init_39 (fun H locs w cx => ?_)
  obtain ⟨G20, eG20⟩ : ∃ z, z = gSt G18 a0 1 q15 := ⟨_, rfl⟩
  rw [← eG20] at w cx
  have h := h G20 eG20
  have xG20 := ext_st eG20
  have hKa0 := ext_K xG20 hLa0 hKa0
  have hLa0 := ext_L xG20 hLa0
  have hKa1 := ext_K xG20 hLa1 hKa1
  have hLa1 := ext_L xG20 hLa1
  have hKa2 := ext_K xG20 hLa2 hKa2
  have hLa2 := ext_L xG20 hLa2
  have hKq1 := ext_K xG20 hLq1 hKq1
  have hLq1 := ext_L xG20 hLq1
  have hKq5 := ext_K xG20 hLq5 hKq5
  have hLq5 := ext_L xG20 hLq5
  have hKq9 := ext_K xG20 hLq9 hKq9
  have hLq9 := ext_L xG20 hLq9
  have hKq15 := ext_K xG20 hLq15 hKq15
  have hLq15 := ext_L xG20 hLq15
  have hext := ext_tr hext xG20
  refine lv_aload_n hx hb dX2_init_42 rfl (lv_at hl 0 rfl) ?_
  refine lv_aload_n hx hb dX2_init_43 rfl (lv_at hl 2 rfl) ?_
  refine r_putRF (k := 2) cx w tyX2 tyX2_ok nmX2 hLa0 hKa0 (by decide) rfl wk_X2_init_X2 (by decide) rfl hini rfl (tyX2_ok 2 (by decide)) rfl rfl sr_1_2 (ln_1 _ _ (by decide)) hLa2 (by rw [hKa2]; rfl) (List.mem_of_getElem? (i := 15) rfl) dX2_init_44 (fun H locs w cx => ?_)
  obtain ⟨G21, eG21⟩ : ∃ z, z = gSt G20 a0 2 a2 := ⟨_, rfl⟩
  rw [← eG21] at w cx
  have h := h G21 eG21
  have xG21 := ext_st eG21
  have hKa0 := ext_K xG21 hLa0 hKa0
  have hLa0 := ext_L xG21 hLa0
  have hKa1 := ext_K xG21 hLa1 hKa1
  have hLa1 := ext_L xG21 hLa1
  have hKa2 := ext_K xG21 hLa2 hKa2
  have hLa2 := ext_L xG21 hLa2
  have hKq1 := ext_K xG21 hLq1 hKq1
  have hLq1 := ext_L xG21 hLq1
  have hKq5 := ext_K xG21 hLq5 hKq5
  have hLq5 := ext_L xG21 hLq5
  have hKq9 := ext_K xG21 hLq9 hKq9
  have hLq9 := ext_L xG21 hLq9
  have hKq15 := ext_K xG21 hLq15 hKq15
  have hLq15 := ext_L xG21 hLq15
  have hext := ext_tr hext xG21
  exact r_vretN cx w h hext (Nat.le_of_ble_eq_true rfl) (Nat.le_of_ble_eq_true rfl) dX2_init_47
theorem wk_X9_init_X2 : ∀ w ∈ wsX20, w ∈ wsX9_init := by decide +kernel
theorem wk_X9_init_X3 : ∀ w ∈ wsX30, w ∈ wsX9_init := by decide +kernel
theorem wk_X9_init_X5 : ∀ w ∈ wsX50, w ∈ wsX9_init := by decide +kernel
theorem wk_X9_init_X6 : ∀ w ∈ wsX60, w ∈ wsX9_init := by decide +kernel
theorem wk_X9_init_X8 : ∀ w ∈ wsX80, w ∈ wsX9_init := by decide +kernel
theorem wk_X9_init_X9 : ∀ w ∈ wsX90, w ∈ wsX9_init := by decide +kernel
abbrev rnX9_init : Room := { frames := 7, cells := 65, slots := 19797, locals := 153 }
def n_X9_init (G : gS) (M : mS) (a0 : Nat) (post : gS → mS → Prop) : Prop := ∀ q1, q1 ∉ gL G → ∀ G2, G2 = gNw G q1 5 0 → ∀ M3, M3 = wZ M q1 → (n_X6_init G2 M3 q1 (fun G4 M5 => ∀ G6, G6 = gSt G4 a0 0 q1 → (∀ q7, q7 ∉ gL G6 → ∀ G8, G8 = gNw G6 q7 2 0 → ∀ M9, M9 = wZ M5 q7 → (n_X3_init G8 M9 q7 (fun G10 M11 => ∀ G12, G12 = gSt G10 a0 1 q7 → (∀ q13, q13 ∉ gL G12 → ∀ G14, G14 = gNw G12 q13 7 0 → ∀ M15, M15 = wZ M11 q13 → (n_X8_init G14 M15 q13 (fun G16 M17 => ∀ G18, G18 = gSt G16 a0 2 q13 → (∀ q19, q19 ∉ gL G18 → ∀ G20, G20 = gNw G18 q19 7 0 → ∀ M21, M21 = wZ M17 q19 → (n_X8_init G20 M21 q19 (fun G22 M23 => ∀ G24, G24 = gSt G22 a0 3 q19 → (∀ q25, q25 ∉ gL G24 → ∀ G26, G26 = gNw G24 q25 1 0 → ∀ M27, M27 = wZ M23 q25 → (∃ q28, gP G26 a0 0 = some q28 ∧ (∃ q29, gP G26 a0 3 = some q29 ∧ (n_X2_init G26 M27 q25 q28 q29 (fun G30 M31 => ∀ G32, G32 = gSt G30 a0 4 q25 → (∀ q33, q33 ∉ gL G32 → ∀ G34, G34 = gNw G32 q33 4 0 → ∀ M35, M35 = wZ M31 q33 → (∃ q36, gP G34 a0 1 = some q36 ∧ (n_X5_init G34 M35 q33 q36 (fun G37 M38 => ∀ G39, G39 = gSt G37 a0 5 q33 → (∀ M40, M40 = wI M38 a0 6 (-1 : Int32) → (post G39 M40))))))))))))))))))))))
set_option maxHeartbeats 4000000 in
set_option maxRecDepth 100000 in
theorem kn_X9_init {l : Launch} {D : va_G} {cy : cyS} {G : gS} {M : mS} {post : gS → mS → Prop} {a0 : Nat} (hG : wt G) (hLa0 : a0 ∈ gL G) (hKa0 : gK G a0 = 8) (h : n_X9_init G M a0 post) : ctN l yX9_init wsX9_init rnX9_init D cy G M [.ref a0] 65 19797 post := by
  unfold n_X9_init at h
  refine ctN_of (cc := cX9_init) (nL := 1) (lv := [(0, .ref a0)]) hG (by decide) rfl (Nat.le_of_ble_eq_true rfl) rfl ?_
  intro p e s m args below meth c sz ls hini cx w hl
  obtain ⟨hx, hb, hml, hown, hts, hr, hlocks, hK, hA, -, hsx⟩ := id cx
  have hini : meth.name = "<init>" := hini
  have hext := ext_rf (G := G)
  refine lv_aload_n hx hb dX9_init_0 rfl (lv_at hl 0 rfl) ?_
  refine W.objInit hx hb hown (hts (.methodLink RX9 3 objectInit) (List.mem_of_getElem? (i := 1) rfl)) (hts (.instanceMethod objectInit) (List.mem_of_getElem? (i := 2) rfl)) (hts _ (List.mem_of_getElem? (i := 3) rfl)) rfl (by rw [hml]; exact hl.1) rfl dX9_init_1 (Nat.le_of_ble_eq_true rfl) (Nat.le_of_ble_eq_true rfl) ?_
  refine W.eq (g2 := F0 m 4 ls []) rfl ?_
  refine lv_aload_n hx hb dX9_init_4 rfl (lv_at hl 0 rfl) ?_
  refine r_newO cx w tyX6 tyX6_ok rfl (by decide) wk_X9_init_X6 (List.mem_of_getElem? (i := 4) rfl) (List.mem_of_getElem? (i := 5) rfl) (List.mem_of_getElem? (i := 6) rfl) df_5 (Nat.le_of_ble_eq_true rfl) (Nat.le_of_ble_eq_true rfl) dX9_init_5 (fun q1 H nq1 w cx => ?_)
  obtain ⟨G2, eG2⟩ : ∃ z, z = gNw G q1 5 0 := ⟨_, rfl⟩
  obtain ⟨M3, eM3⟩ : ∃ z, z = wZ M q1 := ⟨_, rfl⟩
  rw [← eG2] at cx
  rw [← eG2, ← eM3] at w
  have h := h q1 nq1 G2 eG2 M3 eM3
  have xG2 := ext_nw eG2 nq1
  have hKa0 := ext_K xG2 hLa0 hKa0
  have hLa0 := ext_L xG2 hLa0
  have hext := ext_tr hext xG2
  have hLq1 := nw_Lq eG2
  have hKq1 := nw_Kq eG2
  refine lv_dup hx hb dX9_init_8 rfl ?_
  refine r_callNN (As := []) (rest := [.ref q1, .ref a0]) cx w ⟨Nat.le_of_ble_eq_true rfl, Nat.le_of_ble_eq_true rfl⟩ hl.1 (kn_X6_init (cX_wt cx) hLq1 hKq1 h) ⟨va_cnB 0 hts gX9_init_X6_init_n11 rfl rfl rfl (nwM cx (q := (RX9, 11, yX6_init, "FlagAnts")) (List.mem_of_getElem? (i := 0) rfl)) (hts _ (List.mem_of_getElem? (i := 6) rfl)) (by decide +kernel) ⟨Nat.le_of_ble_eq_true rfl, Nat.le_of_ble_eq_true rfl⟩, rfl, hts _ (List.mem_of_getElem? (i := 26) rfl)⟩ rfl rfl (Nat.le_of_ble_eq_true rfl) dX9_init_9 (fun G4 M5 H locs h xG4 cx w => ?_)
  have hKa0 := ext_K xG4 hLa0 hKa0
  have hLa0 := ext_L xG4 hLa0
  have hKq1 := ext_K xG4 hLq1 hKq1
  have hLq1 := ext_L xG4 hLq1
  have hext := ext_tr hext xG4
  refine r_putRF (k := 0) cx w tyX9 tyX9_ok nmX9 hLa0 hKa0 (by decide) rfl wk_X9_init_X9 (by decide) rfl hini rfl (tyX9_ok 0 (by decide)) rfl rfl sr_8_0 (ln_8 _ _ (by decide)) hLq1 (by rw [hKq1]; rfl) (List.mem_of_getElem? (i := 7) rfl) dX9_init_12 (fun H locs w cx => ?_)
  obtain ⟨G6, eG6⟩ : ∃ z, z = gSt G4 a0 0 q1 := ⟨_, rfl⟩
  rw [← eG6] at w cx
  have h := h G6 eG6
  have xG6 := ext_st eG6
  have hKa0 := ext_K xG6 hLa0 hKa0
  have hLa0 := ext_L xG6 hLa0
  have hKq1 := ext_K xG6 hLq1 hKq1
  have hLq1 := ext_L xG6 hLq1
  have hext := ext_tr hext xG6
  refine lv_aload_n hx hb dX9_init_15 rfl (lv_at hl 0 rfl) ?_
  refine r_newO cx w tyX3 tyX3_ok rfl (by decide) wk_X9_init_X3 (List.mem_of_getElem? (i := 8) rfl) (List.mem_of_getElem? (i := 9) rfl) (List.mem_of_getElem? (i := 10) rfl) df_2 (Nat.le_of_ble_eq_true rfl) (Nat.le_of_ble_eq_true rfl) dX9_init_16 (fun q7 H nq7 w cx => ?_)
  obtain ⟨G8, eG8⟩ : ∃ z, z = gNw G6 q7 2 0 := ⟨_, rfl⟩
  obtain ⟨M9, eM9⟩ : ∃ z, z = wZ M5 q7 := ⟨_, rfl⟩
  rw [← eG8] at cx
  rw [← eG8, ← eM9] at w
  have h := h q7 nq7 G8 eG8 M9 eM9
  have xG8 := ext_nw eG8 nq7
  have hKa0 := ext_K xG8 hLa0 hKa0
  have hLa0 := ext_L xG8 hLa0
  have hKq1 := ext_K xG8 hLq1 hKq1
  have hLq1 := ext_L xG8 hLq1
  have hext := ext_tr hext xG8
  have hLq7 := nw_Lq eG8
  have hKq7 := nw_Kq eG8
  refine lv_dup hx hb dX9_init_19 rfl ?_
  refine r_callNN (As := []) (rest := [.ref q7, .ref a0]) cx w ⟨Nat.le_of_ble_eq_true rfl, Nat.le_of_ble_eq_true rfl⟩ hl.1 (kn_X3_init (cX_wt cx) hLq7 hKq7 h) ⟨va_cnB 0 hts gX9_init_X3_init_n18 rfl rfl rfl (nwM cx (q := (RX9, 18, yX3_init, "FlagAnts")) (List.mem_of_getElem? (i := 1) rfl)) (hts _ (List.mem_of_getElem? (i := 10) rfl)) (by decide +kernel) ⟨Nat.le_of_ble_eq_true rfl, Nat.le_of_ble_eq_true rfl⟩, rfl, hts _ (List.mem_of_getElem? (i := 31) rfl)⟩ rfl rfl (Nat.le_of_ble_eq_true rfl) dX9_init_20 (fun G10 M11 H locs h xG10 cx w => ?_)
  have hKa0 := ext_K xG10 hLa0 hKa0
  have hLa0 := ext_L xG10 hLa0
  have hKq1 := ext_K xG10 hLq1 hKq1
  have hLq1 := ext_L xG10 hLq1
  have hKq7 := ext_K xG10 hLq7 hKq7
  have hLq7 := ext_L xG10 hLq7
  have hext := ext_tr hext xG10
  refine r_putRF (k := 1) cx w tyX9 tyX9_ok nmX9 hLa0 hKa0 (by decide) rfl wk_X9_init_X9 (by decide) rfl hini rfl (tyX9_ok 1 (by decide)) rfl rfl sr_8_1 (ln_8 _ _ (by decide)) hLq7 (by rw [hKq7]; rfl) (List.mem_of_getElem? (i := 11) rfl) dX9_init_23 (fun H locs w cx => ?_)
  obtain ⟨G12, eG12⟩ : ∃ z, z = gSt G10 a0 1 q7 := ⟨_, rfl⟩
  rw [← eG12] at w cx
  have h := h G12 eG12
  have xG12 := ext_st eG12
  have hKa0 := ext_K xG12 hLa0 hKa0
  have hLa0 := ext_L xG12 hLa0
  have hKq1 := ext_K xG12 hLq1 hKq1
  have hLq1 := ext_L xG12 hLq1
  have hKq7 := ext_K xG12 hLq7 hKq7
  have hLq7 := ext_L xG12 hLq7
  have hext := ext_tr hext xG12
  refine lv_aload_n hx hb dX9_init_26 rfl (lv_at hl 0 rfl) ?_
  refine r_newO cx w tyX8 tyX8_ok rfl (by decide) wk_X9_init_X8 (List.mem_of_getElem? (i := 12) rfl) (List.mem_of_getElem? (i := 13) rfl) (List.mem_of_getElem? (i := 14) rfl) df_7 (Nat.le_of_ble_eq_true rfl) (Nat.le_of_ble_eq_true rfl) dX9_init_27 (fun q13 H nq13 w cx => ?_)
  obtain ⟨G14, eG14⟩ : ∃ z, z = gNw G12 q13 7 0 := ⟨_, rfl⟩
  obtain ⟨M15, eM15⟩ : ∃ z, z = wZ M11 q13 := ⟨_, rfl⟩
  rw [← eG14] at cx
  rw [← eG14, ← eM15] at w
  have h := h q13 nq13 G14 eG14 M15 eM15
  have xG14 := ext_nw eG14 nq13
  have hKa0 := ext_K xG14 hLa0 hKa0
  have hLa0 := ext_L xG14 hLa0
  have hKq1 := ext_K xG14 hLq1 hKq1
  have hLq1 := ext_L xG14 hLq1
  have hKq7 := ext_K xG14 hLq7 hKq7
  have hLq7 := ext_L xG14 hLq7
  have hext := ext_tr hext xG14
  have hLq13 := nw_Lq eG14
  have hKq13 := nw_Kq eG14
  refine lv_dup hx hb dX9_init_30 rfl ?_
  refine r_callN (As := []) (rest := [.ref q13, .ref a0]) cx w ⟨Nat.le_of_ble_eq_true rfl, Nat.le_of_ble_eq_true rfl⟩ hl.1 (kn_X8_init (cX_wt cx) hLq13 hKq13 h) (cwI 0 hts gX9_init_X8_init rfl rfl rfl (hts _ (List.mem_of_getElem? (i := 14) rfl)) (hts _ (List.mem_of_getElem? (i := 42) rfl)) (hts _ (List.mem_of_getElem? (i := 43) rfl)) rfl (by decide +kernel) ⟨Nat.le_of_ble_eq_true rfl, Nat.le_of_ble_eq_true rfl⟩) rfl rfl (Nat.le_of_ble_eq_true rfl) dX9_init_31 (fun G16 M17 H locs h xG16 cx w => ?_)
  have hKa0 := ext_K xG16 hLa0 hKa0
  have hLa0 := ext_L xG16 hLa0
  have hKq1 := ext_K xG16 hLq1 hKq1
  have hLq1 := ext_L xG16 hLq1
  have hKq7 := ext_K xG16 hLq7 hKq7
  have hLq7 := ext_L xG16 hLq7
  have hKq13 := ext_K xG16 hLq13 hKq13
  have hLq13 := ext_L xG16 hLq13
  have hext := ext_tr hext xG16
  refine r_putRF (k := 2) cx w tyX9 tyX9_ok nmX9 hLa0 hKa0 (by decide) rfl wk_X9_init_X9 (by decide) rfl hini rfl (tyX9_ok 2 (by decide)) rfl rfl sr_8_2 (ln_8 _ _ (by decide)) hLq13 (by rw [hKq13]; rfl) (List.mem_of_getElem? (i := 15) rfl) dX9_init_34 (fun H locs w cx => ?_)
  obtain ⟨G18, eG18⟩ : ∃ z, z = gSt G16 a0 2 q13 := ⟨_, rfl⟩
  rw [← eG18] at w cx
  have h := h G18 eG18
  have xG18 := ext_st eG18
  have hKa0 := ext_K xG18 hLa0 hKa0
  have hLa0 := ext_L xG18 hLa0
  have hKq1 := ext_K xG18 hLq1 hKq1
  have hLq1 := ext_L xG18 hLq1
  have hKq7 := ext_K xG18 hLq7 hKq7
  have hLq7 := ext_L xG18 hLq7
  have hKq13 := ext_K xG18 hLq13 hKq13
  have hLq13 := ext_L xG18 hLq13
  have hext := ext_tr hext xG18
  refine lv_aload_n hx hb dX9_init_37 rfl (lv_at hl 0 rfl) ?_
  refine r_newO cx w tyX8 tyX8_ok rfl (by decide) wk_X9_init_X8 (List.mem_of_getElem? (i := 12) rfl) (List.mem_of_getElem? (i := 13) rfl) (List.mem_of_getElem? (i := 14) rfl) df_7 (Nat.le_of_ble_eq_true rfl) (Nat.le_of_ble_eq_true rfl) dX9_init_38 (fun q19 H nq19 w cx => ?_)
  obtain ⟨G20, eG20⟩ : ∃ z, z = gNw G18 q19 7 0 := ⟨_, rfl⟩
  obtain ⟨M21, eM21⟩ : ∃ z, z = wZ M17 q19 := ⟨_, rfl⟩
  rw [← eG20] at cx
  rw [← eG20, ← eM21] at w
  have h := h q19 nq19 G20 eG20 M21 eM21
  have xG20 := ext_nw eG20 nq19
  have hKa0 := ext_K xG20 hLa0 hKa0
  have hLa0 := ext_L xG20 hLa0
  have hKq1 := ext_K xG20 hLq1 hKq1
  have hLq1 := ext_L xG20 hLq1
  have hKq7 := ext_K xG20 hLq7 hKq7
  have hLq7 := ext_L xG20 hLq7
  have hKq13 := ext_K xG20 hLq13 hKq13
  have hLq13 := ext_L xG20 hLq13
  have hext := ext_tr hext xG20
  have hLq19 := nw_Lq eG20
  have hKq19 := nw_Kq eG20
  refine lv_dup hx hb dX9_init_41 rfl ?_
  refine r_callN (As := []) (rest := [.ref q19, .ref a0]) cx w ⟨Nat.le_of_ble_eq_true rfl, Nat.le_of_ble_eq_true rfl⟩ hl.1 (kn_X8_init (cX_wt cx) hLq19 hKq19 h) (cwI 0 hts gX9_init_X8_init rfl rfl rfl (hts _ (List.mem_of_getElem? (i := 14) rfl)) (hts _ (List.mem_of_getElem? (i := 42) rfl)) (hts _ (List.mem_of_getElem? (i := 43) rfl)) rfl (by decide +kernel) ⟨Nat.le_of_ble_eq_true rfl, Nat.le_of_ble_eq_true rfl⟩) rfl rfl (Nat.le_of_ble_eq_true rfl) dX9_init_42 (fun G22 M23 H locs h xG22 cx w => ?_)
  have hKa0 := ext_K xG22 hLa0 hKa0
  have hLa0 := ext_L xG22 hLa0
  have hKq1 := ext_K xG22 hLq1 hKq1
  have hLq1 := ext_L xG22 hLq1
  have hKq7 := ext_K xG22 hLq7 hKq7
  have hLq7 := ext_L xG22 hLq7
  have hKq13 := ext_K xG22 hLq13 hKq13
  have hLq13 := ext_L xG22 hLq13
  have hKq19 := ext_K xG22 hLq19 hKq19
  have hLq19 := ext_L xG22 hLq19
  have hext := ext_tr hext xG22
  refine r_putRF (k := 3) cx w tyX9 tyX9_ok nmX9 hLa0 hKa0 (by decide) rfl wk_X9_init_X9 (by decide) rfl hini rfl (tyX9_ok 3 (by decide)) rfl rfl sr_8_3 (ln_8 _ _ (by decide)) hLq19 (by rw [hKq19]; rfl) (List.mem_of_getElem? (i := 16) rfl) dX9_init_45 (fun H locs w cx => ?_)
  obtain ⟨G24, eG24⟩ : ∃ z, z = gSt G22 a0 3 q19 := ⟨_, rfl⟩
  rw [← eG24] at w cx
  have h := h G24 eG24
  have xG24 := ext_st eG24
  have hKa0 := ext_K xG24 hLa0 hKa0
  have hLa0 := ext_L xG24 hLa0
  have hKq1 := ext_K xG24 hLq1 hKq1
  have hLq1 := ext_L xG24 hLq1
  have hKq7 := ext_K xG24 hLq7 hKq7
  have hLq7 := ext_L xG24 hLq7
  have hKq13 := ext_K xG24 hLq13 hKq13
  have hLq13 := ext_L xG24 hLq13
  have hKq19 := ext_K xG24 hLq19 hKq19
  have hLq19 := ext_L xG24 hLq19
  have hext := ext_tr hext xG24
  refine lv_aload_n hx hb dX9_init_48 rfl (lv_at hl 0 rfl) ?_
  refine r_newO cx w tyX2 tyX2_ok rfl (by decide) wk_X9_init_X2 (List.mem_of_getElem? (i := 17) rfl) (List.mem_of_getElem? (i := 18) rfl) (List.mem_of_getElem? (i := 19) rfl) df_1 (Nat.le_of_ble_eq_true rfl) (Nat.le_of_ble_eq_true rfl) dX9_init_49 (fun q25 H nq25 w cx => ?_)
  obtain ⟨G26, eG26⟩ : ∃ z, z = gNw G24 q25 1 0 := ⟨_, rfl⟩
  obtain ⟨M27, eM27⟩ : ∃ z, z = wZ M23 q25 := ⟨_, rfl⟩
  rw [← eG26] at cx
  rw [← eG26, ← eM27] at w
  have h := h q25 nq25 G26 eG26 M27 eM27
  have xG26 := ext_nw eG26 nq25
  have hKa0 := ext_K xG26 hLa0 hKa0
  have hLa0 := ext_L xG26 hLa0
  have hKq1 := ext_K xG26 hLq1 hKq1
  have hLq1 := ext_L xG26 hLq1
  have hKq7 := ext_K xG26 hLq7 hKq7
  have hLq7 := ext_L xG26 hLq7
  have hKq13 := ext_K xG26 hLq13 hKq13
  have hLq13 := ext_L xG26 hLq13
  have hKq19 := ext_K xG26 hLq19 hKq19
  have hLq19 := ext_L xG26 hLq19
  have hext := ext_tr hext xG26
  have hLq25 := nw_Lq eG26
  have hKq25 := nw_Kq eG26
  refine lv_dup hx hb dX9_init_52 rfl ?_
  refine lv_aload_n hx hb dX9_init_53 rfl (lv_at hl 0 rfl) ?_
  obtain ⟨q28, eq28, h⟩ := h
  obtain ⟨hLq28, hKq28⟩ := wt_q (cX_wt cx) hLa0 hKa0 eq28
  have hKq28 : gK G26 q28 = 5 := hKq28
  refine r_getR (k := 0) cx w hLa0 hKa0 (by decide) rfl wk_X9_init_X9 (by decide) rfl eq28 (List.mem_of_getElem? (i := 7) rfl) dX9_init_54 ?_
  refine lv_aload_n hx hb dX9_init_57 rfl (lv_at hl 0 rfl) ?_
  obtain ⟨q29, eq29, h⟩ := h
  obtain ⟨hLq29, hKq29⟩ := wt_q (cX_wt cx) hLa0 hKa0 eq29
  have hKq29 : gK G26 q29 = 7 := hKq29
  refine r_getR (k := 3) cx w hLa0 hKa0 (by decide) rfl wk_X9_init_X9 (by decide) rfl eq29 (List.mem_of_getElem? (i := 16) rfl) dX9_init_58 ?_
  refine r_callN (As := [.ref q28, .ref q29]) (rest := [.ref q25, .ref a0]) cx w ⟨Nat.le_of_ble_eq_true rfl, Nat.le_of_ble_eq_true rfl⟩ hl.1 (kn_X2_init (cX_wt cx) hLq25 hKq25 hLq28 hKq28 hLq29 hKq29 h) (cwI 2 hts gX9_init_X2_init rfl rfl rfl (hts _ (List.mem_of_getElem? (i := 19) rfl)) (hts _ (List.mem_of_getElem? (i := 57) rfl)) (hts _ (List.mem_of_getElem? (i := 58) rfl)) rfl (by decide +kernel) ⟨Nat.le_of_ble_eq_true rfl, Nat.le_of_ble_eq_true rfl⟩) rfl rfl (Nat.le_of_ble_eq_true rfl) dX9_init_61 (fun G30 M31 H locs h xG30 cx w => ?_)
  have hKa0 := ext_K xG30 hLa0 hKa0
  have hLa0 := ext_L xG30 hLa0
  have hKq1 := ext_K xG30 hLq1 hKq1
  have hLq1 := ext_L xG30 hLq1
  have hKq7 := ext_K xG30 hLq7 hKq7
  have hLq7 := ext_L xG30 hLq7
  have hKq13 := ext_K xG30 hLq13 hKq13
  have hLq13 := ext_L xG30 hLq13
  have hKq19 := ext_K xG30 hLq19 hKq19
  have hLq19 := ext_L xG30 hLq19
  have hKq25 := ext_K xG30 hLq25 hKq25
  have hLq25 := ext_L xG30 hLq25
  have hKq28 := ext_K xG30 hLq28 hKq28
  have hLq28 := ext_L xG30 hLq28
  have hKq29 := ext_K xG30 hLq29 hKq29
  have hLq29 := ext_L xG30 hLq29
  have hext := ext_tr hext xG30
  refine r_putRF (k := 4) cx w tyX9 tyX9_ok nmX9 hLa0 hKa0 (by decide) rfl wk_X9_init_X9 (by decide) rfl hini rfl (tyX9_ok 4 (by decide)) rfl rfl sr_8_4 (ln_8 _ _ (by decide)) hLq25 (by rw [hKq25]; rfl) (List.mem_of_getElem? (i := 20) rfl) dX9_init_64 (fun H locs w cx => ?_)
  obtain ⟨G32, eG32⟩ : ∃ z, z = gSt G30 a0 4 q25 := ⟨_, rfl⟩
  rw [← eG32] at w cx
  have h := h G32 eG32
  have xG32 := ext_st eG32
  have hKa0 := ext_K xG32 hLa0 hKa0
  have hLa0 := ext_L xG32 hLa0
  have hKq1 := ext_K xG32 hLq1 hKq1
  have hLq1 := ext_L xG32 hLq1
  have hKq7 := ext_K xG32 hLq7 hKq7
  have hLq7 := ext_L xG32 hLq7
  have hKq13 := ext_K xG32 hLq13 hKq13
  have hLq13 := ext_L xG32 hLq13
  have hKq19 := ext_K xG32 hLq19 hKq19
  have hLq19 := ext_L xG32 hLq19
  have hKq25 := ext_K xG32 hLq25 hKq25
  have hLq25 := ext_L xG32 hLq25
  have hKq28 := ext_K xG32 hLq28 hKq28
  have hLq28 := ext_L xG32 hLq28
  have hKq29 := ext_K xG32 hLq29 hKq29
  have hLq29 := ext_L xG32 hLq29
  have hext := ext_tr hext xG32
  refine lv_aload_n hx hb dX9_init_67 rfl (lv_at hl 0 rfl) ?_
  refine r_newO cx w tyX5 tyX5_ok rfl (by decide) wk_X9_init_X5 (List.mem_of_getElem? (i := 21) rfl) (List.mem_of_getElem? (i := 22) rfl) (List.mem_of_getElem? (i := 23) rfl) df_4 (Nat.le_of_ble_eq_true rfl) (Nat.le_of_ble_eq_true rfl) dX9_init_68 (fun q33 H nq33 w cx => ?_)
  obtain ⟨G34, eG34⟩ : ∃ z, z = gNw G32 q33 4 0 := ⟨_, rfl⟩
  obtain ⟨M35, eM35⟩ : ∃ z, z = wZ M31 q33 := ⟨_, rfl⟩
  rw [← eG34] at cx
  rw [← eG34, ← eM35] at w
  have h := h q33 nq33 G34 eG34 M35 eM35
  have xG34 := ext_nw eG34 nq33
  have hKa0 := ext_K xG34 hLa0 hKa0
  have hLa0 := ext_L xG34 hLa0
  have hKq1 := ext_K xG34 hLq1 hKq1
  have hLq1 := ext_L xG34 hLq1
  have hKq7 := ext_K xG34 hLq7 hKq7
  have hLq7 := ext_L xG34 hLq7
  have hKq13 := ext_K xG34 hLq13 hKq13
  have hLq13 := ext_L xG34 hLq13
  have hKq19 := ext_K xG34 hLq19 hKq19
  have hLq19 := ext_L xG34 hLq19
  have hKq25 := ext_K xG34 hLq25 hKq25
  have hLq25 := ext_L xG34 hLq25
  have hKq28 := ext_K xG34 hLq28 hKq28
  have hLq28 := ext_L xG34 hLq28
  have hKq29 := ext_K xG34 hLq29 hKq29
  have hLq29 := ext_L xG34 hLq29
  have hext := ext_tr hext xG34
  have hLq33 := nw_Lq eG34
  have hKq33 := nw_Kq eG34
  refine lv_dup hx hb dX9_init_71 rfl ?_
  refine lv_aload_n hx hb dX9_init_72 rfl (lv_at hl 0 rfl) ?_
  obtain ⟨q36, eq36, h⟩ := h
  obtain ⟨hLq36, hKq36⟩ := wt_q (cX_wt cx) hLa0 hKa0 eq36
  have hKq36 : gK G34 q36 = 2 := hKq36
  refine r_getR (k := 1) cx w hLa0 hKa0 (by decide) rfl wk_X9_init_X9 (by decide) rfl eq36 (List.mem_of_getElem? (i := 11) rfl) dX9_init_73 ?_
  refine r_callN (As := [.ref q36]) (rest := [.ref q33, .ref a0]) cx w ⟨Nat.le_of_ble_eq_true rfl, Nat.le_of_ble_eq_true rfl⟩ hl.1 (kn_X5_init (cX_wt cx) hLq33 hKq33 hLq36 hKq36 h) (cwI 1 hts gX9_init_X5_init rfl rfl rfl (hts _ (List.mem_of_getElem? (i := 23) rfl)) (hts _ (List.mem_of_getElem? (i := 140) rfl)) (hts _ (List.mem_of_getElem? (i := 141) rfl)) rfl (by decide +kernel) ⟨Nat.le_of_ble_eq_true rfl, Nat.le_of_ble_eq_true rfl⟩) rfl rfl (Nat.le_of_ble_eq_true rfl) dX9_init_76 (fun G37 M38 H locs h xG37 cx w => ?_)
  have hKa0 := ext_K xG37 hLa0 hKa0
  have hLa0 := ext_L xG37 hLa0
  have hKq1 := ext_K xG37 hLq1 hKq1
  have hLq1 := ext_L xG37 hLq1
  have hKq7 := ext_K xG37 hLq7 hKq7
  have hLq7 := ext_L xG37 hLq7
  have hKq13 := ext_K xG37 hLq13 hKq13
  have hLq13 := ext_L xG37 hLq13
  have hKq19 := ext_K xG37 hLq19 hKq19
  have hLq19 := ext_L xG37 hLq19
  have hKq25 := ext_K xG37 hLq25 hKq25
  have hLq25 := ext_L xG37 hLq25
  have hKq28 := ext_K xG37 hLq28 hKq28
  have hLq28 := ext_L xG37 hLq28
  have hKq29 := ext_K xG37 hLq29 hKq29
  have hLq29 := ext_L xG37 hLq29
  have hKq33 := ext_K xG37 hLq33 hKq33
  have hLq33 := ext_L xG37 hLq33
  have hKq36 := ext_K xG37 hLq36 hKq36
  have hLq36 := ext_L xG37 hLq36
  have hext := ext_tr hext xG37
  refine r_putRF (k := 5) cx w tyX9 tyX9_ok nmX9 hLa0 hKa0 (by decide) rfl wk_X9_init_X9 (by decide) rfl hini rfl (tyX9_ok 5 (by decide)) rfl rfl sr_8_5 (ln_8 _ _ (by decide)) hLq33 (by rw [hKq33]; rfl) (List.mem_of_getElem? (i := 24) rfl) dX9_init_79 (fun H locs w cx => ?_)
  obtain ⟨G39, eG39⟩ : ∃ z, z = gSt G37 a0 5 q33 := ⟨_, rfl⟩
  rw [← eG39] at w cx
  have h := h G39 eG39
  have xG39 := ext_st eG39
  have hKa0 := ext_K xG39 hLa0 hKa0
  have hLa0 := ext_L xG39 hLa0
  have hKq1 := ext_K xG39 hLq1 hKq1
  have hLq1 := ext_L xG39 hLq1
  have hKq7 := ext_K xG39 hLq7 hKq7
  have hLq7 := ext_L xG39 hLq7
  have hKq13 := ext_K xG39 hLq13 hKq13
  have hLq13 := ext_L xG39 hLq13
  have hKq19 := ext_K xG39 hLq19 hKq19
  have hLq19 := ext_L xG39 hLq19
  have hKq25 := ext_K xG39 hLq25 hKq25
  have hLq25 := ext_L xG39 hLq25
  have hKq28 := ext_K xG39 hLq28 hKq28
  have hLq28 := ext_L xG39 hLq28
  have hKq29 := ext_K xG39 hLq29 hKq29
  have hLq29 := ext_L xG39 hLq29
  have hKq33 := ext_K xG39 hLq33 hKq33
  have hLq33 := ext_L xG39 hLq33
  have hKq36 := ext_K xG39 hLq36 hKq36
  have hLq36 := ext_L xG39 hLq36
  have hext := ext_tr hext xG39
  refine lv_aload_n hx hb dX9_init_82 rfl (lv_at hl 0 rfl) ?_
  refine lv_iconst (v := (-1 : Int32)) hx hb dX9_init_83 (by decide) ?_
  obtain ⟨M40, eM40⟩ : ∃ z, z = wI M38 a0 6 (-1 : Int32) := ⟨_, rfl⟩
  have h := h M40 eM40
  refine r_putI (k := 6) (ty := .int) cx w tyX9 tyX9_ok nmX9 hLa0 hKa0 (by decide) rfl wk_X9_init_X9 (by decide) rfl rfl rfl rfl st_8_6 (ln_8 _ _ (by decide)) (List.mem_of_getElem? (i := 25) rfl) dX9_init_84 eM40 (fun H locs w => ?_)
  exact r_vretN cx w h hext (Nat.le_of_ble_eq_true rfl) (Nat.le_of_ble_eq_true rfl) dX9_init_87
