theorem wk_X6_init_X6 : ∀ w ∈ wsX60, w ∈ wsX6_init := by decide +kernel
abbrev rnX6_init : Room := { frames := 1, cells := 1, slots := 2000, locals := 60 }
def n_X6_init (G : gS) (M : mS) (a0 : Nat) (post : gS → mS → Prop) : Prop := ∀ q1, q1 ∉ gL G → ∀ G2, G2 = gNw G q1 12 2000 → ∀ M3, M3 = wZ M q1 → (∀ G4, G4 = gSt G2 a0 0 q1 → (post G4 M3))
set_option maxHeartbeats 4000000 in
set_option maxRecDepth 100000 in
theorem kn_X6_init {l : Launch} {D : va_G} {cy : cyS} {G : gS} {M : mS} {post : gS → mS → Prop} {a0 : Nat} (hG : wt G) (hLa0 : a0 ∈ gL G) (hKa0 : gK G a0 = 5) (h : n_X6_init G M a0 post) : ctN l yX6_init wsX6_init rnX6_init D cy G M [.ref a0] 1 2000 post := by
  unfold n_X6_init at h
  refine ctN_of (cc := cX6_init) (nL := 1) (lv := [(0, .ref a0)]) hG (by decide) rfl (Nat.le_of_ble_eq_true rfl) rfl ?_
  intro p e s m args below meth c sz ls hini cx w hl
  obtain ⟨hx, hb, hml, hown, hts, hr, hlocks, hK, hA, -, hsx⟩ := id cx
  have hini : meth.name = "<init>" := hini
  have hext := ext_rf (G := G)
  refine lv_aload_n hx hb dX6_init_0 rfl (lv_at hl 0 rfl) ?_
  refine W.objInit hx hb hown (hts (.methodLink RX6 1 objectInit) (List.mem_of_getElem? (i := 1) rfl)) (hts (.instanceMethod objectInit) (List.mem_of_getElem? (i := 2) rfl)) (hts _ (List.mem_of_getElem? (i := 3) rfl)) rfl (by rw [hml]; exact hl.1) rfl dX6_init_1 (Nat.le_of_ble_eq_true rfl) (Nat.le_of_ble_eq_true rfl) ?_
  refine W.eq (g2 := F0 m 4 ls []) rfl ?_
  refine lv_aload_n hx hb dX6_init_4 rfl (lv_at hl 0 rfl) ?_
  refine lv_sipush (v := (2000 : Int32)) hx hb dX6_init_5 (by decide) ?_
  refine r_newI (N := 2000) cx w (List.mem_of_getElem? (i := 4) rfl) (by decide) (by decide) (Nat.le_of_ble_eq_true rfl) (Nat.le_of_ble_eq_true rfl) (Nat.le_of_ble_eq_true rfl) dX6_init_8 (fun q1 H nq1 w cx => ?_)
  obtain ⟨G2, eG2⟩ : ∃ z, z = gNw G q1 12 2000 := ⟨_, rfl⟩
  obtain ⟨M3, eM3⟩ : ∃ z, z = wZ M q1 := ⟨_, rfl⟩
  rw [← eG2] at cx
  rw [← eG2, ← eM3] at w
  have h := h q1 nq1 G2 eG2 M3 eM3
  have xG2 := ext_nw eG2 nq1
  have hKa0 := ext_K xG2 hLa0 hKa0
  have hLa0 := ext_L xG2 hLa0
  have hext := ext_tr hext xG2
  have hLq1 := nw_Lq eG2
  have hKq1 := nw_Kq eG2
  refine r_putRF (k := 0) cx w tyX6 tyX6_ok nmX6 hLa0 hKa0 (by decide) rfl wk_X6_init_X6 (by decide) rfl hini rfl (tyX6_ok 0 (by decide)) rfl rfl sr_5_0 (ln_5 _ _ (by decide)) hLq1 (by rw [hKq1]; rfl) (List.mem_of_getElem? (i := 5) rfl) dX6_init_10 (fun H locs w cx => ?_)
  obtain ⟨G4, eG4⟩ : ∃ z, z = gSt G2 a0 0 q1 := ⟨_, rfl⟩
  rw [← eG4] at w cx
  have h := h G4 eG4
  have xG4 := ext_st eG4
  have hKa0 := ext_K xG4 hLa0 hKa0
  have hLa0 := ext_L xG4 hLa0
  have hKq1 := ext_K xG4 hLq1 hKq1
  have hLq1 := ext_L xG4 hLq1
  have hext := ext_tr hext xG4
  exact r_vretN cx w h hext (Nat.le_of_ble_eq_true rfl) (Nat.le_of_ble_eq_true rfl) dX6_init_13
theorem wk_X3_init_X3 : ∀ w ∈ wsX30, w ∈ wsX3_init := by decide +kernel
abbrev rnX3_init : Room := { frames := 1, cells := 8, slots := 915, locals := 60 }
def n_X3_init (G : gS) (M : mS) (a0 : Nat) (post : gS → mS → Prop) : Prop := ∀ q1, q1 ∉ gL G → ∀ G2, G2 = gNw G q1 12 5 → ∀ M3, M3 = wZ M q1 → (∀ G4, G4 = gSt G2 a0 1 q1 → (∀ q5, q5 ∉ gL G4 → ∀ G6, G6 = gNw G4 q5 12 30 → ∀ M7, M7 = wZ M3 q5 → (∀ G8, G8 = gSt G6 a0 2 q5 → (∀ q9, q9 ∉ gL G8 → ∀ G10, G10 = gNw G8 q9 12 20 → ∀ M11, M11 = wZ M7 q9 → (∀ G12, G12 = gSt G10 a0 4 q9 → (∀ q13, q13 ∉ gL G12 → ∀ G14, G14 = gNw G12 q13 12 20 → ∀ M15, M15 = wZ M11 q13 → (∀ G16, G16 = gSt G14 a0 5 q13 → (∀ q17, q17 ∉ gL G16 → ∀ G18, G18 = gNw G16 q17 12 20 → ∀ M19, M19 = wZ M15 q17 → (∀ G20, G20 = gSt G18 a0 6 q17 → (∀ q21, q21 ∉ gL G20 → ∀ G22, G22 = gNw G20 q21 12 20 → ∀ M23, M23 = wZ M19 q21 → (∀ G24, G24 = gSt G22 a0 7 q21 → (∀ q25, q25 ∉ gL G24 → ∀ G26, G26 = gNw G24 q25 12 400 → ∀ M27, M27 = wZ M23 q25 → (∀ G28, G28 = gSt G26 a0 9 q25 → (∀ q29, q29 ∉ gL G28 → ∀ G30, G30 = gNw G28 q29 12 400 → ∀ M31, M31 = wZ M27 q29 → (∀ G32, G32 = gSt G30 a0 10 q29 → (post G32 M31))))))))))))))))
set_option maxHeartbeats 4000000 in
set_option maxRecDepth 100000 in
theorem kn_X3_init {l : Launch} {D : va_G} {cy : cyS} {G : gS} {M : mS} {post : gS → mS → Prop} {a0 : Nat} (hG : wt G) (hLa0 : a0 ∈ gL G) (hKa0 : gK G a0 = 2) (h : n_X3_init G M a0 post) : ctN l yX3_init wsX3_init rnX3_init D cy G M [.ref a0] 8 915 post := by
  unfold n_X3_init at h
  refine ctN_of (cc := cX3_init) (nL := 1) (lv := [(0, .ref a0)]) hG (by decide) rfl (Nat.le_of_ble_eq_true rfl) rfl ?_
  intro p e s m args below meth c sz ls hini cx w hl
  obtain ⟨hx, hb, hml, hown, hts, hr, hlocks, hK, hA, -, hsx⟩ := id cx
  have hini : meth.name = "<init>" := hini
  have hext := ext_rf (G := G)
  refine lv_aload_n hx hb dX3_init_0 rfl (lv_at hl 0 rfl) ?_
  refine W.objInit hx hb hown (hts (.methodLink RX3 3 objectInit) (List.mem_of_getElem? (i := 1) rfl)) (hts (.instanceMethod objectInit) (List.mem_of_getElem? (i := 2) rfl)) (hts _ (List.mem_of_getElem? (i := 3) rfl)) rfl (by rw [hml]; exact hl.1) rfl dX3_init_1 (Nat.le_of_ble_eq_true rfl) (Nat.le_of_ble_eq_true rfl) ?_
  refine W.eq (g2 := F0 m 4 ls []) rfl ?_
  refine lv_aload_n hx hb dX3_init_4 rfl (lv_at hl 0 rfl) ?_
  refine lv_iconst (v := (5 : Int32)) hx hb dX3_init_5 (by decide) ?_
  refine r_newI (N := 5) cx w (List.mem_of_getElem? (i := 4) rfl) (by decide) (by decide) (Nat.le_of_ble_eq_true rfl) (Nat.le_of_ble_eq_true rfl) (Nat.le_of_ble_eq_true rfl) dX3_init_6 (fun q1 H nq1 w cx => ?_)
  obtain ⟨G2, eG2⟩ : ∃ z, z = gNw G q1 12 5 := ⟨_, rfl⟩
  obtain ⟨M3, eM3⟩ : ∃ z, z = wZ M q1 := ⟨_, rfl⟩
  rw [← eG2] at cx
  rw [← eG2, ← eM3] at w
  have h := h q1 nq1 G2 eG2 M3 eM3
  have xG2 := ext_nw eG2 nq1
  have hKa0 := ext_K xG2 hLa0 hKa0
  have hLa0 := ext_L xG2 hLa0
  have hext := ext_tr hext xG2
  have hLq1 := nw_Lq eG2
  have hKq1 := nw_Kq eG2
  refine r_putRF (k := 1) cx w tyX3 tyX3_ok nmX3 hLa0 hKa0 (by decide) rfl wk_X3_init_X3 (by decide) rfl hini rfl (tyX3_ok 1 (by decide)) rfl rfl sr_2_1 (ln_2 _ _ (by decide)) hLq1 (by rw [hKq1]; rfl) (List.mem_of_getElem? (i := 5) rfl) dX3_init_8 (fun H locs w cx => ?_)
  obtain ⟨G4, eG4⟩ : ∃ z, z = gSt G2 a0 1 q1 := ⟨_, rfl⟩
  rw [← eG4] at w cx
  have h := h G4 eG4
  have xG4 := ext_st eG4
  have hKa0 := ext_K xG4 hLa0 hKa0
  have hLa0 := ext_L xG4 hLa0
  have hKq1 := ext_K xG4 hLq1 hKq1
  have hLq1 := ext_L xG4 hLq1
  have hext := ext_tr hext xG4
  refine lv_aload_n hx hb dX3_init_11 rfl (lv_at hl 0 rfl) ?_
  refine lv_bipush (v := (30 : Int32)) hx hb dX3_init_12 (by decide) ?_
  refine r_newI (N := 30) cx w (List.mem_of_getElem? (i := 4) rfl) (by decide) (by decide) (Nat.le_of_ble_eq_true rfl) (Nat.le_of_ble_eq_true rfl) (Nat.le_of_ble_eq_true rfl) dX3_init_14 (fun q5 H nq5 w cx => ?_)
  obtain ⟨G6, eG6⟩ : ∃ z, z = gNw G4 q5 12 30 := ⟨_, rfl⟩
  obtain ⟨M7, eM7⟩ : ∃ z, z = wZ M3 q5 := ⟨_, rfl⟩
  rw [← eG6] at cx
  rw [← eG6, ← eM7] at w
  have h := h q5 nq5 G6 eG6 M7 eM7
  have xG6 := ext_nw eG6 nq5
  have hKa0 := ext_K xG6 hLa0 hKa0
  have hLa0 := ext_L xG6 hLa0
  have hKq1 := ext_K xG6 hLq1 hKq1
  have hLq1 := ext_L xG6 hLq1
  have hext := ext_tr hext xG6
  have hLq5 := nw_Lq eG6
  have hKq5 := nw_Kq eG6
  refine r_putRF (k := 2) cx w tyX3 tyX3_ok nmX3 hLa0 hKa0 (by decide) rfl wk_X3_init_X3 (by decide) rfl hini rfl (tyX3_ok 2 (by decide)) rfl rfl sr_2_2 (ln_2 _ _ (by decide)) hLq5 (by rw [hKq5]; rfl) (List.mem_of_getElem? (i := 6) rfl) dX3_init_16 (fun H locs w cx => ?_)
  obtain ⟨G8, eG8⟩ : ∃ z, z = gSt G6 a0 2 q5 := ⟨_, rfl⟩
  rw [← eG8] at w cx
  have h := h G8 eG8
  have xG8 := ext_st eG8
  have hKa0 := ext_K xG8 hLa0 hKa0
  have hLa0 := ext_L xG8 hLa0
  have hKq1 := ext_K xG8 hLq1 hKq1
  have hLq1 := ext_L xG8 hLq1
  have hKq5 := ext_K xG8 hLq5 hKq5
  have hLq5 := ext_L xG8 hLq5
  have hext := ext_tr hext xG8
  refine lv_aload_n hx hb dX3_init_19 rfl (lv_at hl 0 rfl) ?_
  refine lv_bipush (v := (20 : Int32)) hx hb dX3_init_20 (by decide) ?_
  refine r_newI (N := 20) cx w (List.mem_of_getElem? (i := 4) rfl) (by decide) (by decide) (Nat.le_of_ble_eq_true rfl) (Nat.le_of_ble_eq_true rfl) (Nat.le_of_ble_eq_true rfl) dX3_init_22 (fun q9 H nq9 w cx => ?_)
  obtain ⟨G10, eG10⟩ : ∃ z, z = gNw G8 q9 12 20 := ⟨_, rfl⟩
  obtain ⟨M11, eM11⟩ : ∃ z, z = wZ M7 q9 := ⟨_, rfl⟩
  rw [← eG10] at cx
  rw [← eG10, ← eM11] at w
  have h := h q9 nq9 G10 eG10 M11 eM11
  have xG10 := ext_nw eG10 nq9
  have hKa0 := ext_K xG10 hLa0 hKa0
  have hLa0 := ext_L xG10 hLa0
  have hKq1 := ext_K xG10 hLq1 hKq1
  have hLq1 := ext_L xG10 hLq1
  have hKq5 := ext_K xG10 hLq5 hKq5
  have hLq5 := ext_L xG10 hLq5
  have hext := ext_tr hext xG10
  have hLq9 := nw_Lq eG10
  have hKq9 := nw_Kq eG10
  refine r_putRF (k := 4) cx w tyX3 tyX3_ok nmX3 hLa0 hKa0 (by decide) rfl wk_X3_init_X3 (by decide) rfl hini rfl (tyX3_ok 4 (by decide)) rfl rfl sr_2_4 (ln_2 _ _ (by decide)) hLq9 (by rw [hKq9]; rfl) (List.mem_of_getElem? (i := 7) rfl) dX3_init_24 (fun H locs w cx => ?_)
  obtain ⟨G12, eG12⟩ : ∃ z, z = gSt G10 a0 4 q9 := ⟨_, rfl⟩
  rw [← eG12] at w cx
  have h := h G12 eG12
  have xG12 := ext_st eG12
  have hKa0 := ext_K xG12 hLa0 hKa0
  have hLa0 := ext_L xG12 hLa0
  have hKq1 := ext_K xG12 hLq1 hKq1
  have hLq1 := ext_L xG12 hLq1
  have hKq5 := ext_K xG12 hLq5 hKq5
  have hLq5 := ext_L xG12 hLq5
  have hKq9 := ext_K xG12 hLq9 hKq9
  have hLq9 := ext_L xG12 hLq9
  have hext := ext_tr hext xG12
  refine lv_aload_n hx hb dX3_init_27 rfl (lv_at hl 0 rfl) ?_
  refine lv_bipush (v := (20 : Int32)) hx hb dX3_init_28 (by decide) ?_
  refine r_newI (N := 20) cx w (List.mem_of_getElem? (i := 4) rfl) (by decide) (by decide) (Nat.le_of_ble_eq_true rfl) (Nat.le_of_ble_eq_true rfl) (Nat.le_of_ble_eq_true rfl) dX3_init_30 (fun q13 H nq13 w cx => ?_)
  obtain ⟨G14, eG14⟩ : ∃ z, z = gNw G12 q13 12 20 := ⟨_, rfl⟩
  obtain ⟨M15, eM15⟩ : ∃ z, z = wZ M11 q13 := ⟨_, rfl⟩
  rw [← eG14] at cx
  rw [← eG14, ← eM15] at w
  have h := h q13 nq13 G14 eG14 M15 eM15
  have xG14 := ext_nw eG14 nq13
  have hKa0 := ext_K xG14 hLa0 hKa0
  have hLa0 := ext_L xG14 hLa0
  have hKq1 := ext_K xG14 hLq1 hKq1
  have hLq1 := ext_L xG14 hLq1
  have hKq5 := ext_K xG14 hLq5 hKq5
  have hLq5 := ext_L xG14 hLq5
  have hKq9 := ext_K xG14 hLq9 hKq9
  have hLq9 := ext_L xG14 hLq9
  have hext := ext_tr hext xG14
  have hLq13 := nw_Lq eG14
  have hKq13 := nw_Kq eG14
  refine r_putRF (k := 5) cx w tyX3 tyX3_ok nmX3 hLa0 hKa0 (by decide) rfl wk_X3_init_X3 (by decide) rfl hini rfl (tyX3_ok 5 (by decide)) rfl rfl sr_2_5 (ln_2 _ _ (by decide)) hLq13 (by rw [hKq13]; rfl) (List.mem_of_getElem? (i := 8) rfl) dX3_init_32 (fun H locs w cx => ?_)
  obtain ⟨G16, eG16⟩ : ∃ z, z = gSt G14 a0 5 q13 := ⟨_, rfl⟩
  rw [← eG16] at w cx
  have h := h G16 eG16
  have xG16 := ext_st eG16
  have hKa0 := ext_K xG16 hLa0 hKa0
  have hLa0 := ext_L xG16 hLa0
  have hKq1 := ext_K xG16 hLq1 hKq1
  have hLq1 := ext_L xG16 hLq1
  have hKq5 := ext_K xG16 hLq5 hKq5
  have hLq5 := ext_L xG16 hLq5
  have hKq9 := ext_K xG16 hLq9 hKq9
  have hLq9 := ext_L xG16 hLq9
  have hKq13 := ext_K xG16 hLq13 hKq13
  have hLq13 := ext_L xG16 hLq13
  have hext := ext_tr hext xG16
  refine lv_aload_n hx hb dX3_init_35 rfl (lv_at hl 0 rfl) ?_
  refine lv_bipush (v := (20 : Int32)) hx hb dX3_init_36 (by decide) ?_
  refine r_newI (N := 20) cx w (List.mem_of_getElem? (i := 4) rfl) (by decide) (by decide) (Nat.le_of_ble_eq_true rfl) (Nat.le_of_ble_eq_true rfl) (Nat.le_of_ble_eq_true rfl) dX3_init_38 (fun q17 H nq17 w cx => ?_)
  obtain ⟨G18, eG18⟩ : ∃ z, z = gNw G16 q17 12 20 := ⟨_, rfl⟩
  obtain ⟨M19, eM19⟩ : ∃ z, z = wZ M15 q17 := ⟨_, rfl⟩
  rw [← eG18] at cx
  rw [← eG18, ← eM19] at w
  have h := h q17 nq17 G18 eG18 M19 eM19
  have xG18 := ext_nw eG18 nq17
  have hKa0 := ext_K xG18 hLa0 hKa0
  have hLa0 := ext_L xG18 hLa0
  have hKq1 := ext_K xG18 hLq1 hKq1
  have hLq1 := ext_L xG18 hLq1
  have hKq5 := ext_K xG18 hLq5 hKq5
  have hLq5 := ext_L xG18 hLq5
  have hKq9 := ext_K xG18 hLq9 hKq9
  have hLq9 := ext_L xG18 hLq9
  have hKq13 := ext_K xG18 hLq13 hKq13
  have hLq13 := ext_L xG18 hLq13
  have hext := ext_tr hext xG18
  have hLq17 := nw_Lq eG18
  have hKq17 := nw_Kq eG18
  refine r_putRF (k := 6) cx w tyX3 tyX3_ok nmX3 hLa0 hKa0 (by decide) rfl wk_X3_init_X3 (by decide) rfl hini rfl (tyX3_ok 6 (by decide)) rfl rfl sr_2_6 (ln_2 _ _ (by decide)) hLq17 (by rw [hKq17]; rfl) (List.mem_of_getElem? (i := 9) rfl) dX3_init_40 (fun H locs w cx => ?_)
  obtain ⟨G20, eG20⟩ : ∃ z, z = gSt G18 a0 6 q17 := ⟨_, rfl⟩
  rw [← eG20] at w cx
  have h := h G20 eG20
  have xG20 := ext_st eG20
  have hKa0 := ext_K xG20 hLa0 hKa0
  have hLa0 := ext_L xG20 hLa0
  have hKq1 := ext_K xG20 hLq1 hKq1
  have hLq1 := ext_L xG20 hLq1
  have hKq5 := ext_K xG20 hLq5 hKq5
  have hLq5 := ext_L xG20 hLq5
  have hKq9 := ext_K xG20 hLq9 hKq9
  have hLq9 := ext_L xG20 hLq9
  have hKq13 := ext_K xG20 hLq13 hKq13
  have hLq13 := ext_L xG20 hLq13
  have hKq17 := ext_K xG20 hLq17 hKq17
  have hLq17 := ext_L xG20 hLq17
  have hext := ext_tr hext xG20
  refine lv_aload_n hx hb dX3_init_43 rfl (lv_at hl 0 rfl) ?_
  refine lv_bipush (v := (20 : Int32)) hx hb dX3_init_44 (by decide) ?_
  refine r_newI (N := 20) cx w (List.mem_of_getElem? (i := 4) rfl) (by decide) (by decide) (Nat.le_of_ble_eq_true rfl) (Nat.le_of_ble_eq_true rfl) (Nat.le_of_ble_eq_true rfl) dX3_init_46 (fun q21 H nq21 w cx => ?_)
  obtain ⟨G22, eG22⟩ : ∃ z, z = gNw G20 q21 12 20 := ⟨_, rfl⟩
  obtain ⟨M23, eM23⟩ : ∃ z, z = wZ M19 q21 := ⟨_, rfl⟩
  rw [← eG22] at cx
  rw [← eG22, ← eM23] at w
  have h := h q21 nq21 G22 eG22 M23 eM23
  have xG22 := ext_nw eG22 nq21
  have hKa0 := ext_K xG22 hLa0 hKa0
  have hLa0 := ext_L xG22 hLa0
  have hKq1 := ext_K xG22 hLq1 hKq1
  have hLq1 := ext_L xG22 hLq1
  have hKq5 := ext_K xG22 hLq5 hKq5
  have hLq5 := ext_L xG22 hLq5
  have hKq9 := ext_K xG22 hLq9 hKq9
  have hLq9 := ext_L xG22 hLq9
  have hKq13 := ext_K xG22 hLq13 hKq13
  have hLq13 := ext_L xG22 hLq13
  have hKq17 := ext_K xG22 hLq17 hKq17
  have hLq17 := ext_L xG22 hLq17
  have hext := ext_tr hext xG22
  have hLq21 := nw_Lq eG22
  have hKq21 := nw_Kq eG22
  refine r_putRF (k := 7) cx w tyX3 tyX3_ok nmX3 hLa0 hKa0 (by decide) rfl wk_X3_init_X3 (by decide) rfl hini rfl (tyX3_ok 7 (by decide)) rfl rfl sr_2_7 (ln_2 _ _ (by decide)) hLq21 (by rw [hKq21]; rfl) (List.mem_of_getElem? (i := 10) rfl) dX3_init_48 (fun H locs w cx => ?_)
  obtain ⟨G24, eG24⟩ : ∃ z, z = gSt G22 a0 7 q21 := ⟨_, rfl⟩
  rw [← eG24] at w cx
  have h := h G24 eG24
  have xG24 := ext_st eG24
  have hKa0 := ext_K xG24 hLa0 hKa0
  have hLa0 := ext_L xG24 hLa0
  have hKq1 := ext_K xG24 hLq1 hKq1
  have hLq1 := ext_L xG24 hLq1
  have hKq5 := ext_K xG24 hLq5 hKq5
  have hLq5 := ext_L xG24 hLq5
  have hKq9 := ext_K xG24 hLq9 hKq9
  have hLq9 := ext_L xG24 hLq9
  have hKq13 := ext_K xG24 hLq13 hKq13
  have hLq13 := ext_L xG24 hLq13
  have hKq17 := ext_K xG24 hLq17 hKq17
  have hLq17 := ext_L xG24 hLq17
  have hKq21 := ext_K xG24 hLq21 hKq21
  have hLq21 := ext_L xG24 hLq21
  have hext := ext_tr hext xG24
  refine lv_aload_n hx hb dX3_init_51 rfl (lv_at hl 0 rfl) ?_
  refine lv_sipush (v := (400 : Int32)) hx hb dX3_init_52 (by decide) ?_
  refine r_newI (N := 400) cx w (List.mem_of_getElem? (i := 4) rfl) (by decide) (by decide) (Nat.le_of_ble_eq_true rfl) (Nat.le_of_ble_eq_true rfl) (Nat.le_of_ble_eq_true rfl) dX3_init_55 (fun q25 H nq25 w cx => ?_)
  obtain ⟨G26, eG26⟩ : ∃ z, z = gNw G24 q25 12 400 := ⟨_, rfl⟩
  obtain ⟨M27, eM27⟩ : ∃ z, z = wZ M23 q25 := ⟨_, rfl⟩
  rw [← eG26] at cx
  rw [← eG26, ← eM27] at w
  have h := h q25 nq25 G26 eG26 M27 eM27
  have xG26 := ext_nw eG26 nq25
  have hKa0 := ext_K xG26 hLa0 hKa0
  have hLa0 := ext_L xG26 hLa0
  have hKq1 := ext_K xG26 hLq1 hKq1
  have hLq1 := ext_L xG26 hLq1
  have hKq5 := ext_K xG26 hLq5 hKq5
  have hLq5 := ext_L xG26 hLq5
  have hKq9 := ext_K xG26 hLq9 hKq9
  have hLq9 := ext_L xG26 hLq9
  have hKq13 := ext_K xG26 hLq13 hKq13
  have hLq13 := ext_L xG26 hLq13
  have hKq17 := ext_K xG26 hLq17 hKq17
  have hLq17 := ext_L xG26 hLq17
  have hKq21 := ext_K xG26 hLq21 hKq21
  have hLq21 := ext_L xG26 hLq21
  have hext := ext_tr hext xG26
  have hLq25 := nw_Lq eG26
  have hKq25 := nw_Kq eG26
  refine r_putRF (k := 9) cx w tyX3 tyX3_ok nmX3 hLa0 hKa0 (by decide) rfl wk_X3_init_X3 (by decide) rfl hini rfl (tyX3_ok 9 (by decide)) rfl rfl sr_2_9 (ln_2 _ _ (by decide)) hLq25 (by rw [hKq25]; rfl) (List.mem_of_getElem? (i := 11) rfl) dX3_init_57 (fun H locs w cx => ?_)
  obtain ⟨G28, eG28⟩ : ∃ z, z = gSt G26 a0 9 q25 := ⟨_, rfl⟩
  rw [← eG28] at w cx
  have h := h G28 eG28
  have xG28 := ext_st eG28
  have hKa0 := ext_K xG28 hLa0 hKa0
  have hLa0 := ext_L xG28 hLa0
  have hKq1 := ext_K xG28 hLq1 hKq1
  have hLq1 := ext_L xG28 hLq1
  have hKq5 := ext_K xG28 hLq5 hKq5
  have hLq5 := ext_L xG28 hLq5
  have hKq9 := ext_K xG28 hLq9 hKq9
  have hLq9 := ext_L xG28 hLq9
  have hKq13 := ext_K xG28 hLq13 hKq13
  have hLq13 := ext_L xG28 hLq13
  have hKq17 := ext_K xG28 hLq17 hKq17
  have hLq17 := ext_L xG28 hLq17
  have hKq21 := ext_K xG28 hLq21 hKq21
  have hLq21 := ext_L xG28 hLq21
  have hKq25 := ext_K xG28 hLq25 hKq25
  have hLq25 := ext_L xG28 hLq25
  have hext := ext_tr hext xG28
  refine lv_aload_n hx hb dX3_init_60 rfl (lv_at hl 0 rfl) ?_
  refine lv_sipush (v := (400 : Int32)) hx hb dX3_init_61 (by decide) ?_
  refine r_newI (N := 400) cx w (List.mem_of_getElem? (i := 4) rfl) (by decide) (by decide) (Nat.le_of_ble_eq_true rfl) (Nat.le_of_ble_eq_true rfl) (Nat.le_of_ble_eq_true rfl) dX3_init_64 (fun q29 H nq29 w cx => ?_)
  obtain ⟨G30, eG30⟩ : ∃ z, z = gNw G28 q29 12 400 := ⟨_, rfl⟩
  obtain ⟨M31, eM31⟩ : ∃ z, z = wZ M27 q29 := ⟨_, rfl⟩
  rw [← eG30] at cx
  rw [← eG30, ← eM31] at w
  have h := h q29 nq29 G30 eG30 M31 eM31
  have xG30 := ext_nw eG30 nq29
  have hKa0 := ext_K xG30 hLa0 hKa0
  have hLa0 := ext_L xG30 hLa0
  have hKq1 := ext_K xG30 hLq1 hKq1
  have hLq1 := ext_L xG30 hLq1
  have hKq5 := ext_K xG30 hLq5 hKq5
  have hLq5 := ext_L xG30 hLq5
  have hKq9 := ext_K xG30 hLq9 hKq9
  have hLq9 := ext_L xG30 hLq9
  have hKq13 := ext_K xG30 hLq13 hKq13
  have hLq13 := ext_L xG30 hLq13
  have hKq17 := ext_K xG30 hLq17 hKq17
  have hLq17 := ext_L xG30 hLq17
  have hKq21 := ext_K xG30 hLq21 hKq21
  have hLq21 := ext_L xG30 hLq21
  have hKq25 := ext_K xG30 hLq25 hKq25
  have hLq25 := ext_L xG30 hLq25
  have hext := ext_tr hext xG30
  have hLq29 := nw_Lq eG30
  have hKq29 := nw_Kq eG30
  refine r_putRF (k := 10) cx w tyX3 tyX3_ok nmX3 hLa0 hKa0 (by decide) rfl wk_X3_init_X3 (by decide) rfl hini rfl (tyX3_ok 10 (by decide)) rfl rfl sr_2_10 (ln_2 _ _ (by decide)) hLq29 (by rw [hKq29]; rfl) (List.mem_of_getElem? (i := 12) rfl) dX3_init_66 (fun H locs w cx => ?_)
  obtain ⟨G32, eG32⟩ : ∃ z, z = gSt G30 a0 10 q29 := ⟨_, rfl⟩
  rw [← eG32] at w cx
  have h := h G32 eG32
  have xG32 := ext_st eG32
  have hKa0 := ext_K xG32 hLa0 hKa0
  have hLa0 := ext_L xG32 hLa0
  have hKq1 := ext_K xG32 hLq1 hKq1
  have hLq1 := ext_L xG32 hLq1
  have hKq5 := ext_K xG32 hLq5 hKq5
  have hLq5 := ext_L xG32 hLq5
  have hKq9 := ext_K xG32 hLq9 hKq9
  have hLq9 := ext_L xG32 hLq9
  have hKq13 := ext_K xG32 hLq13 hKq13
  have hLq13 := ext_L xG32 hLq13
  have hKq17 := ext_K xG32 hLq17 hKq17
  have hLq17 := ext_L xG32 hLq17
  have hKq21 := ext_K xG32 hLq21 hKq21
  have hLq21 := ext_L xG32 hLq21
  have hKq25 := ext_K xG32 hLq25 hKq25
  have hLq25 := ext_L xG32 hLq25
  have hKq29 := ext_K xG32 hLq29 hKq29
  have hLq29 := ext_L xG32 hLq29
  have hext := ext_tr hext xG32
  exact r_vretN cx w h hext (Nat.le_of_ble_eq_true rfl) (Nat.le_of_ble_eq_true rfl) dX3_init_69
theorem wk_X0_init_X0 : ∀ w ∈ wsX00, w ∈ wsX0_init := by decide +kernel
abbrev rnX0_init : Room := { frames := 1, cells := 1, slots := 512, locals := 60 }
def n_X0_init (G : gS) (M : mS) (a0 : Nat) (post : gS → mS → Prop) : Prop := ∀ q1, q1 ∉ gL G → ∀ G2, G2 = gNw G q1 12 512 → ∀ M3, M3 = wZ M q1 → (∀ G4, G4 = gSt G2 a0 8 q1 → (post G4 M3))
set_option maxHeartbeats 4000000 in
set_option maxRecDepth 100000 in
theorem kn_X0_init {l : Launch} {D : va_G} {cy : cyS} {G : gS} {M : mS} {post : gS → mS → Prop} {a0 : Nat} (hG : wt G) (hLa0 : a0 ∈ gL G) (hKa0 : gK G a0 = 0) (h : n_X0_init G M a0 post) : ctN l yX0_init wsX0_init rnX0_init D cy G M [.ref a0] 1 512 post := by
  unfold n_X0_init at h
  refine ctN_of (cc := cX0_init) (nL := 1) (lv := [(0, .ref a0)]) hG (by decide) rfl (Nat.le_of_ble_eq_true rfl) rfl ?_
  intro p e s m args below meth c sz ls hini cx w hl
  obtain ⟨hx, hb, hml, hown, hts, hr, hlocks, hK, hA, -, hsx⟩ := id cx
  have hini : meth.name = "<init>" := hini
  have hext := ext_rf (G := G)
  refine lv_aload_n hx hb dX0_init_0 rfl (lv_at hl 0 rfl) ?_
  refine W.objInit hx hb hown (hts (.methodLink RX0 3 objectInit) (List.mem_of_getElem? (i := 1) rfl)) (hts (.instanceMethod objectInit) (List.mem_of_getElem? (i := 2) rfl)) (hts _ (List.mem_of_getElem? (i := 3) rfl)) rfl (by rw [hml]; exact hl.1) rfl dX0_init_1 (Nat.le_of_ble_eq_true rfl) (Nat.le_of_ble_eq_true rfl) ?_
  refine W.eq (g2 := F0 m 4 ls []) rfl ?_
  refine lv_aload_n hx hb dX0_init_4 rfl (lv_at hl 0 rfl) ?_
  refine lv_sipush (v := (512 : Int32)) hx hb dX0_init_5 (by decide) ?_
  refine r_newI (N := 512) cx w (List.mem_of_getElem? (i := 4) rfl) (by decide) (by decide) (Nat.le_of_ble_eq_true rfl) (Nat.le_of_ble_eq_true rfl) (Nat.le_of_ble_eq_true rfl) dX0_init_8 (fun q1 H nq1 w cx => ?_)
  obtain ⟨G2, eG2⟩ : ∃ z, z = gNw G q1 12 512 := ⟨_, rfl⟩
  obtain ⟨M3, eM3⟩ : ∃ z, z = wZ M q1 := ⟨_, rfl⟩
  rw [← eG2] at cx
  rw [← eG2, ← eM3] at w
  have h := h q1 nq1 G2 eG2 M3 eM3
  have xG2 := ext_nw eG2 nq1
  have hKa0 := ext_K xG2 hLa0 hKa0
  have hLa0 := ext_L xG2 hLa0
  have hext := ext_tr hext xG2
  have hLq1 := nw_Lq eG2
  have hKq1 := nw_Kq eG2
  refine r_putRF (k := 8) cx w tyX0 tyX0_ok nmX0 hLa0 hKa0 (by decide) rfl wk_X0_init_X0 (by decide) rfl hini rfl (tyX0_ok 8 (by decide)) rfl rfl sr_0_8 (ln_0 _ _ (by decide)) hLq1 (by rw [hKq1]; rfl) (List.mem_of_getElem? (i := 5) rfl) dX0_init_10 (fun H locs w cx => ?_)
  obtain ⟨G4, eG4⟩ : ∃ z, z = gSt G2 a0 8 q1 := ⟨_, rfl⟩
  rw [← eG4] at w cx
  have h := h G4 eG4
  have xG4 := ext_st eG4
  have hKa0 := ext_K xG4 hLa0 hKa0
  have hLa0 := ext_L xG4 hLa0
  have hKq1 := ext_K xG4 hLq1 hKq1
  have hLq1 := ext_L xG4 hLq1
  have hext := ext_tr hext xG4
  exact r_vretN cx w h hext (Nat.le_of_ble_eq_true rfl) (Nat.le_of_ble_eq_true rfl) dX0_init_13
theorem wk_X8_init_X0 : ∀ w ∈ wsX00, w ∈ wsX8_init := by decide +kernel
theorem wk_X8_init_X8 : ∀ w ∈ wsX80, w ∈ wsX8_init := by decide +kernel
abbrev rnX8_init : Room := { frames := 2, cells := 16, slots := 7298, locals := 80 }
def n_X8_init (G : gS) (M : mS) (a0 : Nat) (post : gS → mS → Prop) : Prop := ∀ q1, q1 ∉ gL G → ∀ G2, G2 = gNw G q1 12 4096 → ∀ M3, M3 = wZ M q1 → (∀ G4, G4 = gSt G2 a0 0 q1 → (∀ q5, q5 ∉ gL G4 → ∀ G6, G6 = gNw G4 q5 12 64 → ∀ M7, M7 = wZ M3 q5 → (∀ G8, G8 = gSt G6 a0 1 q5 → (∀ q9, q9 ∉ gL G8 → ∀ G10, G10 = gNw G8 q9 12 6 → ∀ M11, M11 = wZ M7 q9 → (∀ G12, G12 = gSt G10 a0 2 q9 → (∀ q13, q13 ∉ gL G12 → ∀ G14, G14 = gNw G12 q13 14 6 → ∀ M15, M15 = wZ M11 q13 → (∀ G16, G16 = gSt G14 a0 3 q13 → (∃ q17, gP G16 a0 3 = some q17 ∧ (∀ q18, q18 ∉ gL G16 → ∀ G19, G19 = gNw G16 q18 0 0 → ∀ M20, M20 = wZ M15 q18 → (n_X0_init G19 M20 q18 (fun G21 M22 => vp_in (0 : Int32) (gN G21 q17) ∧ ∀ G24, G24 = gSt G21 q17 (Int32.toNatClampNeg (0 : Int32)) q18 → (∃ q25, gP G24 a0 3 = some q25 ∧ (∀ q26, q26 ∉ gL G24 → ∀ G27, G27 = gNw G24 q26 0 0 → ∀ M28, M28 = wZ M22 q26 → (n_X0_init G27 M28 q26 (fun G29 M30 => vp_in (1 : Int32) (gN G29 q25) ∧ ∀ G32, G32 = gSt G29 q25 (Int32.toNatClampNeg (1 : Int32)) q26 → (∃ q33, gP G32 a0 3 = some q33 ∧ (∀ q34, q34 ∉ gL G32 → ∀ G35, G35 = gNw G32 q34 0 0 → ∀ M36, M36 = wZ M30 q34 → (n_X0_init G35 M36 q34 (fun G37 M38 => vp_in (2 : Int32) (gN G37 q33) ∧ ∀ G40, G40 = gSt G37 q33 (Int32.toNatClampNeg (2 : Int32)) q34 → (∃ q41, gP G40 a0 3 = some q41 ∧ (∀ q42, q42 ∉ gL G40 → ∀ G43, G43 = gNw G40 q42 0 0 → ∀ M44, M44 = wZ M38 q42 → (n_X0_init G43 M44 q42 (fun G45 M46 => vp_in (3 : Int32) (gN G45 q41) ∧ ∀ G48, G48 = gSt G45 q41 (Int32.toNatClampNeg (3 : Int32)) q42 → (∃ q49, gP G48 a0 3 = some q49 ∧ (∀ q50, q50 ∉ gL G48 → ∀ G51, G51 = gNw G48 q50 0 0 → ∀ M52, M52 = wZ M46 q50 → (n_X0_init G51 M52 q50 (fun G53 M54 => vp_in (4 : Int32) (gN G53 q49) ∧ ∀ G56, G56 = gSt G53 q49 (Int32.toNatClampNeg (4 : Int32)) q50 → (∃ q57, gP G56 a0 3 = some q57 ∧ (∀ q58, q58 ∉ gL G56 → ∀ G59, G59 = gNw G56 q58 0 0 → ∀ M60, M60 = wZ M54 q58 → (n_X0_init G59 M60 q58 (fun G61 M62 => vp_in (5 : Int32) (gN G61 q57) ∧ ∀ G64, G64 = gSt G61 q57 (Int32.toNatClampNeg (5 : Int32)) q58 → (∃ q65, gP G64 a0 2 = some q65 ∧ (vp_in (0 : Int32) (gN G64 q65) ∧ ∀ M67, M67 = wI M62 q65 (Int32.toNatClampNeg (0 : Int32)) (4096 : Int32) → (post G64 M67))))))))))))))))))))))))))))))))))
set_option maxHeartbeats 4000000 in
set_option maxRecDepth 100000 in
theorem kn_X8_init {l : Launch} {D : va_G} {cy : cyS} {G : gS} {M : mS} {post : gS → mS → Prop} {a0 : Nat} (hG : wt G) (hLa0 : a0 ∈ gL G) (hKa0 : gK G a0 = 7) (h : n_X8_init G M a0 post) : ctN l yX8_init wsX8_init rnX8_init D cy G M [.ref a0] 16 7298 post := by
  unfold n_X8_init at h
  refine ctN_of (cc := cX8_init) (nL := 2) (lv := [(0, .ref a0)]) hG (by decide) rfl (Nat.le_of_ble_eq_true rfl) rfl ?_
  intro p e s m args below meth c sz ls hini cx w hl
  obtain ⟨hx, hb, hml, hown, hts, hr, hlocks, hK, hA, -, hsx⟩ := id cx
  have hini : meth.name = "<init>" := hini
  have hext := ext_rf (G := G)
  refine lv_aload_n hx hb dX8_init_0 rfl (lv_at hl 0 rfl) ?_
  refine W.objInit hx hb hown (hts (.methodLink RX8 3 objectInit) (List.mem_of_getElem? (i := 1) rfl)) (hts (.instanceMethod objectInit) (List.mem_of_getElem? (i := 2) rfl)) (hts _ (List.mem_of_getElem? (i := 3) rfl)) rfl (by rw [hml]; exact hl.1) rfl dX8_init_1 (Nat.le_of_ble_eq_true rfl) (Nat.le_of_ble_eq_true rfl) ?_
  refine W.eq (g2 := F0 m 4 ls []) rfl ?_
  refine lv_aload_n hx hb dX8_init_4 rfl (lv_at hl 0 rfl) ?_
  refine lv_sipush (v := (4096 : Int32)) hx hb dX8_init_5 (by decide) ?_
  refine r_newI (N := 4096) cx w (List.mem_of_getElem? (i := 4) rfl) (by decide) (by decide) (Nat.le_of_ble_eq_true rfl) (Nat.le_of_ble_eq_true rfl) (Nat.le_of_ble_eq_true rfl) dX8_init_8 (fun q1 H nq1 w cx => ?_)
  obtain ⟨G2, eG2⟩ : ∃ z, z = gNw G q1 12 4096 := ⟨_, rfl⟩
  obtain ⟨M3, eM3⟩ : ∃ z, z = wZ M q1 := ⟨_, rfl⟩
  rw [← eG2] at cx
  rw [← eG2, ← eM3] at w
  have h := h q1 nq1 G2 eG2 M3 eM3
  have xG2 := ext_nw eG2 nq1
  have hKa0 := ext_K xG2 hLa0 hKa0
  have hLa0 := ext_L xG2 hLa0
  have hext := ext_tr hext xG2
  have hLq1 := nw_Lq eG2
  have hKq1 := nw_Kq eG2
  refine r_putRF (k := 0) cx w tyX8 tyX8_ok nmX8 hLa0 hKa0 (by decide) rfl wk_X8_init_X8 (by decide) rfl hini rfl (tyX8_ok 0 (by decide)) rfl rfl sr_7_0 (ln_7 _ _ (by decide)) hLq1 (by rw [hKq1]; rfl) (List.mem_of_getElem? (i := 5) rfl) dX8_init_10 (fun H locs w cx => ?_)
  obtain ⟨G4, eG4⟩ : ∃ z, z = gSt G2 a0 0 q1 := ⟨_, rfl⟩
  rw [← eG4] at w cx
  have h := h G4 eG4
  have xG4 := ext_st eG4
  have hKa0 := ext_K xG4 hLa0 hKa0
  have hLa0 := ext_L xG4 hLa0
  have hKq1 := ext_K xG4 hLq1 hKq1
  have hLq1 := ext_L xG4 hLq1
  have hext := ext_tr hext xG4
  refine lv_aload_n hx hb dX8_init_13 rfl (lv_at hl 0 rfl) ?_
  refine lv_bipush (v := (64 : Int32)) hx hb dX8_init_14 (by decide) ?_
  refine r_newI (N := 64) cx w (List.mem_of_getElem? (i := 4) rfl) (by decide) (by decide) (Nat.le_of_ble_eq_true rfl) (Nat.le_of_ble_eq_true rfl) (Nat.le_of_ble_eq_true rfl) dX8_init_16 (fun q5 H nq5 w cx => ?_)
  obtain ⟨G6, eG6⟩ : ∃ z, z = gNw G4 q5 12 64 := ⟨_, rfl⟩
  obtain ⟨M7, eM7⟩ : ∃ z, z = wZ M3 q5 := ⟨_, rfl⟩
  rw [← eG6] at cx
  rw [← eG6, ← eM7] at w
  have h := h q5 nq5 G6 eG6 M7 eM7
  have xG6 := ext_nw eG6 nq5
  have hKa0 := ext_K xG6 hLa0 hKa0
  have hLa0 := ext_L xG6 hLa0
  have hKq1 := ext_K xG6 hLq1 hKq1
  have hLq1 := ext_L xG6 hLq1
  have hext := ext_tr hext xG6
  have hLq5 := nw_Lq eG6
  have hKq5 := nw_Kq eG6
  refine r_putRF (k := 1) cx w tyX8 tyX8_ok nmX8 hLa0 hKa0 (by decide) rfl wk_X8_init_X8 (by decide) rfl hini rfl (tyX8_ok 1 (by decide)) rfl rfl sr_7_1 (ln_7 _ _ (by decide)) hLq5 (by rw [hKq5]; rfl) (List.mem_of_getElem? (i := 6) rfl) dX8_init_18 (fun H locs w cx => ?_)
  obtain ⟨G8, eG8⟩ : ∃ z, z = gSt G6 a0 1 q5 := ⟨_, rfl⟩
  rw [← eG8] at w cx
  have h := h G8 eG8
  have xG8 := ext_st eG8
  have hKa0 := ext_K xG8 hLa0 hKa0
  have hLa0 := ext_L xG8 hLa0
  have hKq1 := ext_K xG8 hLq1 hKq1
  have hLq1 := ext_L xG8 hLq1
  have hKq5 := ext_K xG8 hLq5 hKq5
  have hLq5 := ext_L xG8 hLq5
  have hext := ext_tr hext xG8
  refine lv_aload_n hx hb dX8_init_21 rfl (lv_at hl 0 rfl) ?_
  refine lv_bipush (v := (6 : Int32)) hx hb dX8_init_22 (by decide) ?_
  refine r_newI (N := 6) cx w (List.mem_of_getElem? (i := 4) rfl) (by decide) (by decide) (Nat.le_of_ble_eq_true rfl) (Nat.le_of_ble_eq_true rfl) (Nat.le_of_ble_eq_true rfl) dX8_init_24 (fun q9 H nq9 w cx => ?_)
  obtain ⟨G10, eG10⟩ : ∃ z, z = gNw G8 q9 12 6 := ⟨_, rfl⟩
  obtain ⟨M11, eM11⟩ : ∃ z, z = wZ M7 q9 := ⟨_, rfl⟩
  rw [← eG10] at cx
  rw [← eG10, ← eM11] at w
  have h := h q9 nq9 G10 eG10 M11 eM11
  have xG10 := ext_nw eG10 nq9
  have hKa0 := ext_K xG10 hLa0 hKa0
  have hLa0 := ext_L xG10 hLa0
  have hKq1 := ext_K xG10 hLq1 hKq1
  have hLq1 := ext_L xG10 hLq1
  have hKq5 := ext_K xG10 hLq5 hKq5
  have hLq5 := ext_L xG10 hLq5
  have hext := ext_tr hext xG10
  have hLq9 := nw_Lq eG10
  have hKq9 := nw_Kq eG10
  refine r_putRF (k := 2) cx w tyX8 tyX8_ok nmX8 hLa0 hKa0 (by decide) rfl wk_X8_init_X8 (by decide) rfl hini rfl (tyX8_ok 2 (by decide)) rfl rfl sr_7_2 (ln_7 _ _ (by decide)) hLq9 (by rw [hKq9]; rfl) (List.mem_of_getElem? (i := 7) rfl) dX8_init_26 (fun H locs w cx => ?_)
  obtain ⟨G12, eG12⟩ : ∃ z, z = gSt G10 a0 2 q9 := ⟨_, rfl⟩
  rw [← eG12] at w cx
  have h := h G12 eG12
  have xG12 := ext_st eG12
  have hKa0 := ext_K xG12 hLa0 hKa0
  have hLa0 := ext_L xG12 hLa0
  have hKq1 := ext_K xG12 hLq1 hKq1
  have hLq1 := ext_L xG12 hLq1
  have hKq5 := ext_K xG12 hLq5 hKq5
  have hLq5 := ext_L xG12 hLq5
  have hKq9 := ext_K xG12 hLq9 hKq9
  have hLq9 := ext_L xG12 hLq9
  have hext := ext_tr hext xG12
  refine lv_aload_n hx hb dX8_init_29 rfl (lv_at hl 0 rfl) ?_
  refine lv_bipush (v := (6 : Int32)) hx hb dX8_init_30 (by decide) ?_
  refine r_newR (N := 6) cx w (List.mem_of_getElem? (i := 8) rfl) (by decide) (by decide) (Nat.le_of_ble_eq_true rfl) (Nat.le_of_ble_eq_true rfl) (Nat.le_of_ble_eq_true rfl) dX8_init_32 (fun q13 H nq13 w cx => ?_)
  obtain ⟨G14, eG14⟩ : ∃ z, z = gNw G12 q13 14 6 := ⟨_, rfl⟩
  obtain ⟨M15, eM15⟩ : ∃ z, z = wZ M11 q13 := ⟨_, rfl⟩
  rw [← eG14] at cx
  rw [← eG14, ← eM15] at w
  have h := h q13 nq13 G14 eG14 M15 eM15
  have xG14 := ext_nw eG14 nq13
  have hKa0 := ext_K xG14 hLa0 hKa0
  have hLa0 := ext_L xG14 hLa0
  have hKq1 := ext_K xG14 hLq1 hKq1
  have hLq1 := ext_L xG14 hLq1
  have hKq5 := ext_K xG14 hLq5 hKq5
  have hLq5 := ext_L xG14 hLq5
  have hKq9 := ext_K xG14 hLq9 hKq9
  have hLq9 := ext_L xG14 hLq9
  have hext := ext_tr hext xG14
  have hLq13 := nw_Lq eG14
  have hKq13 := nw_Kq eG14
  refine r_putRF (k := 3) cx w tyX8 tyX8_ok nmX8 hLa0 hKa0 (by decide) rfl wk_X8_init_X8 (by decide) rfl hini rfl (tyX8_ok 3 (by decide)) rfl rfl sr_7_3 (ln_7 _ _ (by decide)) hLq13 (by rw [hKq13]; rfl) (List.mem_of_getElem? (i := 9) rfl) dX8_init_35 (fun H locs w cx => ?_)
  obtain ⟨G16, eG16⟩ : ∃ z, z = gSt G14 a0 3 q13 := ⟨_, rfl⟩
  rw [← eG16] at w cx
  have h := h G16 eG16
  have xG16 := ext_st eG16
  have hKa0 := ext_K xG16 hLa0 hKa0
  have hLa0 := ext_L xG16 hLa0
  have hKq1 := ext_K xG16 hLq1 hKq1
  have hLq1 := ext_L xG16 hLq1
  have hKq5 := ext_K xG16 hLq5 hKq5
  have hLq5 := ext_L xG16 hLq5
  have hKq9 := ext_K xG16 hLq9 hKq9
  have hLq9 := ext_L xG16 hLq9
  have hKq13 := ext_K xG16 hLq13 hKq13
  have hLq13 := ext_L xG16 hLq13
  have hext := ext_tr hext xG16
  refine lv_iconst (v := (0 : Int32)) hx hb dX8_init_38 (by decide) ?_
  refine lv_istore_n (lv' := [(1, .int ((0 : Int32))), (0, .ref a0)]) hx hb dX8_init_39 rfl hl (by decide) rfl (fun ls hl => ?_)
  refine lv_iload_n hx hb dX8_init_40 rfl (lv_at hl 0 rfl) ?_
  refine lv_bipush (v := (6 : Int32)) hx hb dX8_init_41 (by decide) ?_
  refine lv_icmp_ge (tgt := 65) hx hb dX8_init_43 (by decide) (fun k => absurd k (by decide)) (fun _ => ?_)
  refine lv_aload_n hx hb dX8_init_46 rfl (lv_at hl 1 rfl) ?_
  obtain ⟨q17, eq17, h⟩ := h
  obtain ⟨hLq17, hKq17⟩ := wt_q (cX_wt cx) hLa0 hKa0 eq17
  have hKq17 : gK G16 q17 = 14 := hKq17
  refine r_getR (k := 3) cx w hLa0 hKa0 (by decide) rfl wk_X8_init_X8 (by decide) rfl eq17 (List.mem_of_getElem? (i := 9) rfl) dX8_init_47 ?_
  refine lv_iload_n hx hb dX8_init_50 rfl (lv_at hl 0 rfl) ?_
  refine r_newO cx w tyX0 tyX0_ok rfl (by decide) wk_X8_init_X0 (List.mem_of_getElem? (i := 8) rfl) (List.mem_of_getElem? (i := 10) rfl) (List.mem_of_getElem? (i := 11) rfl) df_0 (Nat.le_of_ble_eq_true rfl) (Nat.le_of_ble_eq_true rfl) dX8_init_51 (fun q18 H nq18 w cx => ?_)
  obtain ⟨G19, eG19⟩ : ∃ z, z = gNw G16 q18 0 0 := ⟨_, rfl⟩
  obtain ⟨M20, eM20⟩ : ∃ z, z = wZ M15 q18 := ⟨_, rfl⟩
  rw [← eG19] at cx
  rw [← eG19, ← eM20] at w
  have h := h q18 nq18 G19 eG19 M20 eM20
  have xG19 := ext_nw eG19 nq18
  have hKa0 := ext_K xG19 hLa0 hKa0
  have hLa0 := ext_L xG19 hLa0
  have hKq1 := ext_K xG19 hLq1 hKq1
  have hLq1 := ext_L xG19 hLq1
  have hKq5 := ext_K xG19 hLq5 hKq5
  have hLq5 := ext_L xG19 hLq5
  have hKq9 := ext_K xG19 hLq9 hKq9
  have hLq9 := ext_L xG19 hLq9
  have hKq13 := ext_K xG19 hLq13 hKq13
  have hLq13 := ext_L xG19 hLq13
  have hKq17 := ext_K xG19 hLq17 hKq17
  have hLq17 := ext_L xG19 hLq17
  have hext := ext_tr hext xG19
  have hLq18 := nw_Lq eG19
  have hKq18 := nw_Kq eG19
  refine lv_dup hx hb dX8_init_54 rfl ?_
  refine r_callNN (As := []) (rest := [.ref q18, .int ((0 : Int32)), .ref q17]) cx w ⟨Nat.le_of_ble_eq_true rfl, Nat.le_of_ble_eq_true rfl⟩ hl.1 (kn_X0_init (cX_wt cx) hLq18 hKq18 h) ⟨va_cnB 0 hts gX8_init_X0_init_n27 rfl rfl rfl (nwM cx (q := (RX8, 27, yX0_init, "FlagAnts")) (List.mem_of_getElem? (i := 4) rfl)) (hts _ (List.mem_of_getElem? (i := 11) rfl)) (by decide +kernel) ⟨Nat.le_of_ble_eq_true rfl, Nat.le_of_ble_eq_true rfl⟩, rfl, hts _ (List.mem_of_getElem? (i := 12) rfl)⟩ rfl rfl (Nat.le_of_ble_eq_true rfl) dX8_init_55 (fun G21 M22 H locs h xG21 cx w => ?_)
  have hKa0 := ext_K xG21 hLa0 hKa0
  have hLa0 := ext_L xG21 hLa0
  have hKq1 := ext_K xG21 hLq1 hKq1
  have hLq1 := ext_L xG21 hLq1
  have hKq5 := ext_K xG21 hLq5 hKq5
  have hLq5 := ext_L xG21 hLq5
  have hKq9 := ext_K xG21 hLq9 hKq9
  have hLq9 := ext_L xG21 hLq9
  have hKq13 := ext_K xG21 hLq13 hKq13
  have hLq13 := ext_L xG21 hLq13
  have hKq17 := ext_K xG21 hLq17 hKq17
  have hLq17 := ext_L xG21 hLq17
  have hKq18 := ext_K xG21 hLq18 hKq18
  have hLq18 := ext_L xG21 hLq18
  have hext := ext_tr hext xG21
  obtain ⟨z23, h⟩ := h
  refine r_astR cx w hLq17 hKq17 hLq18 hKq18 z23 dX8_init_58 (fun H locs w cx => ?_)
  obtain ⟨G24, eG24⟩ : ∃ z, z = gSt G21 q17 (Int32.toNatClampNeg (0 : Int32)) q18 := ⟨_, rfl⟩
  rw [← eG24] at w cx
  have h := h G24 eG24
  have xG24 := ext_st eG24
  have hKa0 := ext_K xG24 hLa0 hKa0
  have hLa0 := ext_L xG24 hLa0
  have hKq1 := ext_K xG24 hLq1 hKq1
  have hLq1 := ext_L xG24 hLq1
  have hKq5 := ext_K xG24 hLq5 hKq5
  have hLq5 := ext_L xG24 hLq5
  have hKq9 := ext_K xG24 hLq9 hKq9
  have hLq9 := ext_L xG24 hLq9
  have hKq13 := ext_K xG24 hLq13 hKq13
  have hLq13 := ext_L xG24 hLq13
  have hKq17 := ext_K xG24 hLq17 hKq17
  have hLq17 := ext_L xG24 hLq17
  have hKq18 := ext_K xG24 hLq18 hKq18
  have hLq18 := ext_L xG24 hLq18
  have hext := ext_tr hext xG24
  refine lv_iinc (v := (1 : Int32)) (lv' := [(1, .int ((1 : Int32))), (0, .ref a0)]) hx hb dX8_init_59 hl (k := 0) rfl (by decide) (by decide) rfl (fun ls hl => ?_)
  refine lv_goto (tgt := 40) hx hb dX8_init_62 (by decide) ?_
  refine lv_iload_n hx hb dX8_init_40 rfl (lv_at hl 0 rfl) ?_
  refine lv_bipush (v := (6 : Int32)) hx hb dX8_init_41 (by decide) ?_
  refine lv_icmp_ge (tgt := 65) hx hb dX8_init_43 (by decide) (fun k => absurd k (by decide)) (fun _ => ?_)
  refine lv_aload_n hx hb dX8_init_46 rfl (lv_at hl 1 rfl) ?_
  obtain ⟨q25, eq25, h⟩ := h
  obtain ⟨hLq25, hKq25⟩ := wt_q (cX_wt cx) hLa0 hKa0 eq25
  have hKq25 : gK G24 q25 = 14 := hKq25
  refine r_getR (k := 3) cx w hLa0 hKa0 (by decide) rfl wk_X8_init_X8 (by decide) rfl eq25 (List.mem_of_getElem? (i := 9) rfl) dX8_init_47 ?_
  refine lv_iload_n hx hb dX8_init_50 rfl (lv_at hl 0 rfl) ?_
  refine r_newO cx w tyX0 tyX0_ok rfl (by decide) wk_X8_init_X0 (List.mem_of_getElem? (i := 8) rfl) (List.mem_of_getElem? (i := 10) rfl) (List.mem_of_getElem? (i := 11) rfl) df_0 (Nat.le_of_ble_eq_true rfl) (Nat.le_of_ble_eq_true rfl) dX8_init_51 (fun q26 H nq26 w cx => ?_)
  obtain ⟨G27, eG27⟩ : ∃ z, z = gNw G24 q26 0 0 := ⟨_, rfl⟩
  obtain ⟨M28, eM28⟩ : ∃ z, z = wZ M22 q26 := ⟨_, rfl⟩
  rw [← eG27] at cx
  rw [← eG27, ← eM28] at w
  have h := h q26 nq26 G27 eG27 M28 eM28
  have xG27 := ext_nw eG27 nq26
  have hKa0 := ext_K xG27 hLa0 hKa0
  have hLa0 := ext_L xG27 hLa0
  have hKq1 := ext_K xG27 hLq1 hKq1
  have hLq1 := ext_L xG27 hLq1
  have hKq5 := ext_K xG27 hLq5 hKq5
  have hLq5 := ext_L xG27 hLq5
  have hKq9 := ext_K xG27 hLq9 hKq9
  have hLq9 := ext_L xG27 hLq9
  have hKq13 := ext_K xG27 hLq13 hKq13
  have hLq13 := ext_L xG27 hLq13
  have hKq17 := ext_K xG27 hLq17 hKq17
  have hLq17 := ext_L xG27 hLq17
  have hKq18 := ext_K xG27 hLq18 hKq18
  have hLq18 := ext_L xG27 hLq18
  have hKq25 := ext_K xG27 hLq25 hKq25
  have hLq25 := ext_L xG27 hLq25
  have hext := ext_tr hext xG27
  have hLq26 := nw_Lq eG27
  have hKq26 := nw_Kq eG27
  refine lv_dup hx hb dX8_init_54 rfl ?_
  refine r_callNN (As := []) (rest := [.ref q26, .int ((1 : Int32)), .ref q25]) cx w ⟨Nat.le_of_ble_eq_true rfl, Nat.le_of_ble_eq_true rfl⟩ hl.1 (kn_X0_init (cX_wt cx) hLq26 hKq26 h) ⟨va_cnB 0 hts gX8_init_X0_init_n27 rfl rfl rfl (nwM cx (q := (RX8, 27, yX0_init, "FlagAnts")) (List.mem_of_getElem? (i := 4) rfl)) (hts _ (List.mem_of_getElem? (i := 11) rfl)) (by decide +kernel) ⟨Nat.le_of_ble_eq_true rfl, Nat.le_of_ble_eq_true rfl⟩, rfl, hts _ (List.mem_of_getElem? (i := 12) rfl)⟩ rfl rfl (Nat.le_of_ble_eq_true rfl) dX8_init_55 (fun G29 M30 H locs h xG29 cx w => ?_)
  have hKa0 := ext_K xG29 hLa0 hKa0
  have hLa0 := ext_L xG29 hLa0
  have hKq1 := ext_K xG29 hLq1 hKq1
  have hLq1 := ext_L xG29 hLq1
  have hKq5 := ext_K xG29 hLq5 hKq5
  have hLq5 := ext_L xG29 hLq5
  have hKq9 := ext_K xG29 hLq9 hKq9
  have hLq9 := ext_L xG29 hLq9
  have hKq13 := ext_K xG29 hLq13 hKq13
  have hLq13 := ext_L xG29 hLq13
  have hKq17 := ext_K xG29 hLq17 hKq17
  have hLq17 := ext_L xG29 hLq17
  have hKq18 := ext_K xG29 hLq18 hKq18
  have hLq18 := ext_L xG29 hLq18
  have hKq25 := ext_K xG29 hLq25 hKq25
  have hLq25 := ext_L xG29 hLq25
  have hKq26 := ext_K xG29 hLq26 hKq26
  have hLq26 := ext_L xG29 hLq26
  have hext := ext_tr hext xG29
  obtain ⟨z31, h⟩ := h
  refine r_astR cx w hLq25 hKq25 hLq26 hKq26 z31 dX8_init_58 (fun H locs w cx => ?_)
  obtain ⟨G32, eG32⟩ : ∃ z, z = gSt G29 q25 (Int32.toNatClampNeg (1 : Int32)) q26 := ⟨_, rfl⟩
  rw [← eG32] at w cx
  have h := h G32 eG32
  have xG32 := ext_st eG32
  have hKa0 := ext_K xG32 hLa0 hKa0
  have hLa0 := ext_L xG32 hLa0
  have hKq1 := ext_K xG32 hLq1 hKq1
  have hLq1 := ext_L xG32 hLq1
  have hKq5 := ext_K xG32 hLq5 hKq5
  have hLq5 := ext_L xG32 hLq5
  have hKq9 := ext_K xG32 hLq9 hKq9
  have hLq9 := ext_L xG32 hLq9
  have hKq13 := ext_K xG32 hLq13 hKq13
  have hLq13 := ext_L xG32 hLq13
  have hKq17 := ext_K xG32 hLq17 hKq17
  have hLq17 := ext_L xG32 hLq17
  have hKq18 := ext_K xG32 hLq18 hKq18
  have hLq18 := ext_L xG32 hLq18
  have hKq25 := ext_K xG32 hLq25 hKq25
  have hLq25 := ext_L xG32 hLq25
  have hKq26 := ext_K xG32 hLq26 hKq26
  have hLq26 := ext_L xG32 hLq26
  have hext := ext_tr hext xG32
  refine lv_iinc (v := (2 : Int32)) (lv' := [(1, .int ((2 : Int32))), (0, .ref a0)]) hx hb dX8_init_59 hl (k := 0) rfl (by decide) (by decide) rfl (fun ls hl => ?_)
  refine lv_goto (tgt := 40) hx hb dX8_init_62 (by decide) ?_
  refine lv_iload_n hx hb dX8_init_40 rfl (lv_at hl 0 rfl) ?_
  refine lv_bipush (v := (6 : Int32)) hx hb dX8_init_41 (by decide) ?_
  refine lv_icmp_ge (tgt := 65) hx hb dX8_init_43 (by decide) (fun k => absurd k (by decide)) (fun _ => ?_)
  refine lv_aload_n hx hb dX8_init_46 rfl (lv_at hl 1 rfl) ?_
  obtain ⟨q33, eq33, h⟩ := h
  obtain ⟨hLq33, hKq33⟩ := wt_q (cX_wt cx) hLa0 hKa0 eq33
  have hKq33 : gK G32 q33 = 14 := hKq33
  refine r_getR (k := 3) cx w hLa0 hKa0 (by decide) rfl wk_X8_init_X8 (by decide) rfl eq33 (List.mem_of_getElem? (i := 9) rfl) dX8_init_47 ?_
  refine lv_iload_n hx hb dX8_init_50 rfl (lv_at hl 0 rfl) ?_
  refine r_newO cx w tyX0 tyX0_ok rfl (by decide) wk_X8_init_X0 (List.mem_of_getElem? (i := 8) rfl) (List.mem_of_getElem? (i := 10) rfl) (List.mem_of_getElem? (i := 11) rfl) df_0 (Nat.le_of_ble_eq_true rfl) (Nat.le_of_ble_eq_true rfl) dX8_init_51 (fun q34 H nq34 w cx => ?_)
  obtain ⟨G35, eG35⟩ : ∃ z, z = gNw G32 q34 0 0 := ⟨_, rfl⟩
  obtain ⟨M36, eM36⟩ : ∃ z, z = wZ M30 q34 := ⟨_, rfl⟩
  rw [← eG35] at cx
  rw [← eG35, ← eM36] at w
  have h := h q34 nq34 G35 eG35 M36 eM36
  have xG35 := ext_nw eG35 nq34
  have hKa0 := ext_K xG35 hLa0 hKa0
  have hLa0 := ext_L xG35 hLa0
  have hKq1 := ext_K xG35 hLq1 hKq1
  have hLq1 := ext_L xG35 hLq1
  have hKq5 := ext_K xG35 hLq5 hKq5
  have hLq5 := ext_L xG35 hLq5
  have hKq9 := ext_K xG35 hLq9 hKq9
  have hLq9 := ext_L xG35 hLq9
  have hKq13 := ext_K xG35 hLq13 hKq13
  have hLq13 := ext_L xG35 hLq13
  have hKq17 := ext_K xG35 hLq17 hKq17
  have hLq17 := ext_L xG35 hLq17
  have hKq18 := ext_K xG35 hLq18 hKq18
  have hLq18 := ext_L xG35 hLq18
  have hKq25 := ext_K xG35 hLq25 hKq25
  have hLq25 := ext_L xG35 hLq25
  have hKq26 := ext_K xG35 hLq26 hKq26
  have hLq26 := ext_L xG35 hLq26
  have hKq33 := ext_K xG35 hLq33 hKq33
  have hLq33 := ext_L xG35 hLq33
  have hext := ext_tr hext xG35
  have hLq34 := nw_Lq eG35
  have hKq34 := nw_Kq eG35
  refine lv_dup hx hb dX8_init_54 rfl ?_
  refine r_callNN (As := []) (rest := [.ref q34, .int ((2 : Int32)), .ref q33]) cx w ⟨Nat.le_of_ble_eq_true rfl, Nat.le_of_ble_eq_true rfl⟩ hl.1 (kn_X0_init (cX_wt cx) hLq34 hKq34 h) ⟨va_cnB 0 hts gX8_init_X0_init_n27 rfl rfl rfl (nwM cx (q := (RX8, 27, yX0_init, "FlagAnts")) (List.mem_of_getElem? (i := 4) rfl)) (hts _ (List.mem_of_getElem? (i := 11) rfl)) (by decide +kernel) ⟨Nat.le_of_ble_eq_true rfl, Nat.le_of_ble_eq_true rfl⟩, rfl, hts _ (List.mem_of_getElem? (i := 12) rfl)⟩ rfl rfl (Nat.le_of_ble_eq_true rfl) dX8_init_55 (fun G37 M38 H locs h xG37 cx w => ?_)
  have hKa0 := ext_K xG37 hLa0 hKa0
  have hLa0 := ext_L xG37 hLa0
  have hKq1 := ext_K xG37 hLq1 hKq1
  have hLq1 := ext_L xG37 hLq1
  have hKq5 := ext_K xG37 hLq5 hKq5
  have hLq5 := ext_L xG37 hLq5
  have hKq9 := ext_K xG37 hLq9 hKq9
  have hLq9 := ext_L xG37 hLq9
  have hKq13 := ext_K xG37 hLq13 hKq13
  have hLq13 := ext_L xG37 hLq13
  have hKq17 := ext_K xG37 hLq17 hKq17
  have hLq17 := ext_L xG37 hLq17
  have hKq18 := ext_K xG37 hLq18 hKq18
  have hLq18 := ext_L xG37 hLq18
  have hKq25 := ext_K xG37 hLq25 hKq25
  have hLq25 := ext_L xG37 hLq25
  have hKq26 := ext_K xG37 hLq26 hKq26
  have hLq26 := ext_L xG37 hLq26
  have hKq33 := ext_K xG37 hLq33 hKq33
  have hLq33 := ext_L xG37 hLq33
  have hKq34 := ext_K xG37 hLq34 hKq34
  have hLq34 := ext_L xG37 hLq34
  have hext := ext_tr hext xG37
  obtain ⟨z39, h⟩ := h
  refine r_astR cx w hLq33 hKq33 hLq34 hKq34 z39 dX8_init_58 (fun H locs w cx => ?_)
  obtain ⟨G40, eG40⟩ : ∃ z, z = gSt G37 q33 (Int32.toNatClampNeg (2 : Int32)) q34 := ⟨_, rfl⟩
  rw [← eG40] at w cx
  have h := h G40 eG40
  have xG40 := ext_st eG40
  have hKa0 := ext_K xG40 hLa0 hKa0
  have hLa0 := ext_L xG40 hLa0
  have hKq1 := ext_K xG40 hLq1 hKq1
  have hLq1 := ext_L xG40 hLq1
  have hKq5 := ext_K xG40 hLq5 hKq5
  have hLq5 := ext_L xG40 hLq5
  have hKq9 := ext_K xG40 hLq9 hKq9
  have hLq9 := ext_L xG40 hLq9
  have hKq13 := ext_K xG40 hLq13 hKq13
  have hLq13 := ext_L xG40 hLq13
  have hKq17 := ext_K xG40 hLq17 hKq17
  have hLq17 := ext_L xG40 hLq17
  have hKq18 := ext_K xG40 hLq18 hKq18
  have hLq18 := ext_L xG40 hLq18
  have hKq25 := ext_K xG40 hLq25 hKq25
  have hLq25 := ext_L xG40 hLq25
  have hKq26 := ext_K xG40 hLq26 hKq26
  have hLq26 := ext_L xG40 hLq26
  have hKq33 := ext_K xG40 hLq33 hKq33
  have hLq33 := ext_L xG40 hLq33
  have hKq34 := ext_K xG40 hLq34 hKq34
  have hLq34 := ext_L xG40 hLq34
  have hext := ext_tr hext xG40
  refine lv_iinc (v := (3 : Int32)) (lv' := [(1, .int ((3 : Int32))), (0, .ref a0)]) hx hb dX8_init_59 hl (k := 0) rfl (by decide) (by decide) rfl (fun ls hl => ?_)
  refine lv_goto (tgt := 40) hx hb dX8_init_62 (by decide) ?_
  refine lv_iload_n hx hb dX8_init_40 rfl (lv_at hl 0 rfl) ?_
  refine lv_bipush (v := (6 : Int32)) hx hb dX8_init_41 (by decide) ?_
  refine lv_icmp_ge (tgt := 65) hx hb dX8_init_43 (by decide) (fun k => absurd k (by decide)) (fun _ => ?_)
  refine lv_aload_n hx hb dX8_init_46 rfl (lv_at hl 1 rfl) ?_
  obtain ⟨q41, eq41, h⟩ := h
  obtain ⟨hLq41, hKq41⟩ := wt_q (cX_wt cx) hLa0 hKa0 eq41
  have hKq41 : gK G40 q41 = 14 := hKq41
  refine r_getR (k := 3) cx w hLa0 hKa0 (by decide) rfl wk_X8_init_X8 (by decide) rfl eq41 (List.mem_of_getElem? (i := 9) rfl) dX8_init_47 ?_
  refine lv_iload_n hx hb dX8_init_50 rfl (lv_at hl 0 rfl) ?_
  refine r_newO cx w tyX0 tyX0_ok rfl (by decide) wk_X8_init_X0 (List.mem_of_getElem? (i := 8) rfl) (List.mem_of_getElem? (i := 10) rfl) (List.mem_of_getElem? (i := 11) rfl) df_0 (Nat.le_of_ble_eq_true rfl) (Nat.le_of_ble_eq_true rfl) dX8_init_51 (fun q42 H nq42 w cx => ?_)
  obtain ⟨G43, eG43⟩ : ∃ z, z = gNw G40 q42 0 0 := ⟨_, rfl⟩
  obtain ⟨M44, eM44⟩ : ∃ z, z = wZ M38 q42 := ⟨_, rfl⟩
  rw [← eG43] at cx
  rw [← eG43, ← eM44] at w
  have h := h q42 nq42 G43 eG43 M44 eM44
  have xG43 := ext_nw eG43 nq42
  have hKa0 := ext_K xG43 hLa0 hKa0
  have hLa0 := ext_L xG43 hLa0
  have hKq1 := ext_K xG43 hLq1 hKq1
  have hLq1 := ext_L xG43 hLq1
  have hKq5 := ext_K xG43 hLq5 hKq5
  have hLq5 := ext_L xG43 hLq5
  have hKq9 := ext_K xG43 hLq9 hKq9
  have hLq9 := ext_L xG43 hLq9
  have hKq13 := ext_K xG43 hLq13 hKq13
  have hLq13 := ext_L xG43 hLq13
  have hKq17 := ext_K xG43 hLq17 hKq17
  have hLq17 := ext_L xG43 hLq17
  have hKq18 := ext_K xG43 hLq18 hKq18
  have hLq18 := ext_L xG43 hLq18
  have hKq25 := ext_K xG43 hLq25 hKq25
  have hLq25 := ext_L xG43 hLq25
  have hKq26 := ext_K xG43 hLq26 hKq26
  have hLq26 := ext_L xG43 hLq26
  have hKq33 := ext_K xG43 hLq33 hKq33
  have hLq33 := ext_L xG43 hLq33
  have hKq34 := ext_K xG43 hLq34 hKq34
  have hLq34 := ext_L xG43 hLq34
  have hKq41 := ext_K xG43 hLq41 hKq41
  have hLq41 := ext_L xG43 hLq41
  have hext := ext_tr hext xG43
  have hLq42 := nw_Lq eG43
  have hKq42 := nw_Kq eG43
  refine lv_dup hx hb dX8_init_54 rfl ?_
  refine r_callNN (As := []) (rest := [.ref q42, .int ((3 : Int32)), .ref q41]) cx w ⟨Nat.le_of_ble_eq_true rfl, Nat.le_of_ble_eq_true rfl⟩ hl.1 (kn_X0_init (cX_wt cx) hLq42 hKq42 h) ⟨va_cnB 0 hts gX8_init_X0_init_n27 rfl rfl rfl (nwM cx (q := (RX8, 27, yX0_init, "FlagAnts")) (List.mem_of_getElem? (i := 4) rfl)) (hts _ (List.mem_of_getElem? (i := 11) rfl)) (by decide +kernel) ⟨Nat.le_of_ble_eq_true rfl, Nat.le_of_ble_eq_true rfl⟩, rfl, hts _ (List.mem_of_getElem? (i := 12) rfl)⟩ rfl rfl (Nat.le_of_ble_eq_true rfl) dX8_init_55 (fun G45 M46 H locs h xG45 cx w => ?_)
  have hKa0 := ext_K xG45 hLa0 hKa0
  have hLa0 := ext_L xG45 hLa0
  have hKq1 := ext_K xG45 hLq1 hKq1
  have hLq1 := ext_L xG45 hLq1
  have hKq5 := ext_K xG45 hLq5 hKq5
  have hLq5 := ext_L xG45 hLq5
  have hKq9 := ext_K xG45 hLq9 hKq9
  have hLq9 := ext_L xG45 hLq9
  have hKq13 := ext_K xG45 hLq13 hKq13
  have hLq13 := ext_L xG45 hLq13
  have hKq17 := ext_K xG45 hLq17 hKq17
  have hLq17 := ext_L xG45 hLq17
  have hKq18 := ext_K xG45 hLq18 hKq18
  have hLq18 := ext_L xG45 hLq18
  have hKq25 := ext_K xG45 hLq25 hKq25
  have hLq25 := ext_L xG45 hLq25
  have hKq26 := ext_K xG45 hLq26 hKq26
  have hLq26 := ext_L xG45 hLq26
  have hKq33 := ext_K xG45 hLq33 hKq33
  have hLq33 := ext_L xG45 hLq33
  have hKq34 := ext_K xG45 hLq34 hKq34
  have hLq34 := ext_L xG45 hLq34
  have hKq41 := ext_K xG45 hLq41 hKq41
  have hLq41 := ext_L xG45 hLq41
  have hKq42 := ext_K xG45 hLq42 hKq42
  have hLq42 := ext_L xG45 hLq42
  have hext := ext_tr hext xG45
  obtain ⟨z47, h⟩ := h
  refine r_astR cx w hLq41 hKq41 hLq42 hKq42 z47 dX8_init_58 (fun H locs w cx => ?_)
  obtain ⟨G48, eG48⟩ : ∃ z, z = gSt G45 q41 (Int32.toNatClampNeg (3 : Int32)) q42 := ⟨_, rfl⟩
  rw [← eG48] at w cx
  have h := h G48 eG48
  have xG48 := ext_st eG48
  have hKa0 := ext_K xG48 hLa0 hKa0
  have hLa0 := ext_L xG48 hLa0
  have hKq1 := ext_K xG48 hLq1 hKq1
  have hLq1 := ext_L xG48 hLq1
  have hKq5 := ext_K xG48 hLq5 hKq5
  have hLq5 := ext_L xG48 hLq5
  have hKq9 := ext_K xG48 hLq9 hKq9
  have hLq9 := ext_L xG48 hLq9
  have hKq13 := ext_K xG48 hLq13 hKq13
  have hLq13 := ext_L xG48 hLq13
  have hKq17 := ext_K xG48 hLq17 hKq17
  have hLq17 := ext_L xG48 hLq17
  have hKq18 := ext_K xG48 hLq18 hKq18
  have hLq18 := ext_L xG48 hLq18
  have hKq25 := ext_K xG48 hLq25 hKq25
  have hLq25 := ext_L xG48 hLq25
  have hKq26 := ext_K xG48 hLq26 hKq26
  have hLq26 := ext_L xG48 hLq26
  have hKq33 := ext_K xG48 hLq33 hKq33
  have hLq33 := ext_L xG48 hLq33
  have hKq34 := ext_K xG48 hLq34 hKq34
  have hLq34 := ext_L xG48 hLq34
  have hKq41 := ext_K xG48 hLq41 hKq41
  have hLq41 := ext_L xG48 hLq41
  have hKq42 := ext_K xG48 hLq42 hKq42
  have hLq42 := ext_L xG48 hLq42
  have hext := ext_tr hext xG48
  refine lv_iinc (v := (4 : Int32)) (lv' := [(1, .int ((4 : Int32))), (0, .ref a0)]) hx hb dX8_init_59 hl (k := 0) rfl (by decide) (by decide) rfl (fun ls hl => ?_)
  refine lv_goto (tgt := 40) hx hb dX8_init_62 (by decide) ?_
  refine lv_iload_n hx hb dX8_init_40 rfl (lv_at hl 0 rfl) ?_
  refine lv_bipush (v := (6 : Int32)) hx hb dX8_init_41 (by decide) ?_
  refine lv_icmp_ge (tgt := 65) hx hb dX8_init_43 (by decide) (fun k => absurd k (by decide)) (fun _ => ?_)
  refine lv_aload_n hx hb dX8_init_46 rfl (lv_at hl 1 rfl) ?_
  obtain ⟨q49, eq49, h⟩ := h
  obtain ⟨hLq49, hKq49⟩ := wt_q (cX_wt cx) hLa0 hKa0 eq49
  have hKq49 : gK G48 q49 = 14 := hKq49
  refine r_getR (k := 3) cx w hLa0 hKa0 (by decide) rfl wk_X8_init_X8 (by decide) rfl eq49 (List.mem_of_getElem? (i := 9) rfl) dX8_init_47 ?_
  refine lv_iload_n hx hb dX8_init_50 rfl (lv_at hl 0 rfl) ?_
  refine r_newO cx w tyX0 tyX0_ok rfl (by decide) wk_X8_init_X0 (List.mem_of_getElem? (i := 8) rfl) (List.mem_of_getElem? (i := 10) rfl) (List.mem_of_getElem? (i := 11) rfl) df_0 (Nat.le_of_ble_eq_true rfl) (Nat.le_of_ble_eq_true rfl) dX8_init_51 (fun q50 H nq50 w cx => ?_)
  obtain ⟨G51, eG51⟩ : ∃ z, z = gNw G48 q50 0 0 := ⟨_, rfl⟩
  obtain ⟨M52, eM52⟩ : ∃ z, z = wZ M46 q50 := ⟨_, rfl⟩
  rw [← eG51] at cx
  rw [← eG51, ← eM52] at w
  have h := h q50 nq50 G51 eG51 M52 eM52
  have xG51 := ext_nw eG51 nq50
  have hKa0 := ext_K xG51 hLa0 hKa0
  have hLa0 := ext_L xG51 hLa0
  have hKq1 := ext_K xG51 hLq1 hKq1
  have hLq1 := ext_L xG51 hLq1
  have hKq5 := ext_K xG51 hLq5 hKq5
  have hLq5 := ext_L xG51 hLq5
  have hKq9 := ext_K xG51 hLq9 hKq9
  have hLq9 := ext_L xG51 hLq9
  have hKq13 := ext_K xG51 hLq13 hKq13
  have hLq13 := ext_L xG51 hLq13
  have hKq17 := ext_K xG51 hLq17 hKq17
  have hLq17 := ext_L xG51 hLq17
  have hKq18 := ext_K xG51 hLq18 hKq18
  have hLq18 := ext_L xG51 hLq18
  have hKq25 := ext_K xG51 hLq25 hKq25
  have hLq25 := ext_L xG51 hLq25
  have hKq26 := ext_K xG51 hLq26 hKq26
  have hLq26 := ext_L xG51 hLq26
  have hKq33 := ext_K xG51 hLq33 hKq33
  have hLq33 := ext_L xG51 hLq33
  have hKq34 := ext_K xG51 hLq34 hKq34
  have hLq34 := ext_L xG51 hLq34
  have hKq41 := ext_K xG51 hLq41 hKq41
  have hLq41 := ext_L xG51 hLq41
  have hKq42 := ext_K xG51 hLq42 hKq42
  have hLq42 := ext_L xG51 hLq42
  have hKq49 := ext_K xG51 hLq49 hKq49
  have hLq49 := ext_L xG51 hLq49
  have hext := ext_tr hext xG51
  have hLq50 := nw_Lq eG51
  have hKq50 := nw_Kq eG51
  refine lv_dup hx hb dX8_init_54 rfl ?_
  refine r_callNN (As := []) (rest := [.ref q50, .int ((4 : Int32)), .ref q49]) cx w ⟨Nat.le_of_ble_eq_true rfl, Nat.le_of_ble_eq_true rfl⟩ hl.1 (kn_X0_init (cX_wt cx) hLq50 hKq50 h) ⟨va_cnB 0 hts gX8_init_X0_init_n27 rfl rfl rfl (nwM cx (q := (RX8, 27, yX0_init, "FlagAnts")) (List.mem_of_getElem? (i := 4) rfl)) (hts _ (List.mem_of_getElem? (i := 11) rfl)) (by decide +kernel) ⟨Nat.le_of_ble_eq_true rfl, Nat.le_of_ble_eq_true rfl⟩, rfl, hts _ (List.mem_of_getElem? (i := 12) rfl)⟩ rfl rfl (Nat.le_of_ble_eq_true rfl) dX8_init_55 (fun G53 M54 H locs h xG53 cx w => ?_)
  have hKa0 := ext_K xG53 hLa0 hKa0
  have hLa0 := ext_L xG53 hLa0
  have hKq1 := ext_K xG53 hLq1 hKq1
  have hLq1 := ext_L xG53 hLq1
  have hKq5 := ext_K xG53 hLq5 hKq5
  have hLq5 := ext_L xG53 hLq5
  have hKq9 := ext_K xG53 hLq9 hKq9
  have hLq9 := ext_L xG53 hLq9
  have hKq13 := ext_K xG53 hLq13 hKq13
  have hLq13 := ext_L xG53 hLq13
  have hKq17 := ext_K xG53 hLq17 hKq17
  have hLq17 := ext_L xG53 hLq17
  have hKq18 := ext_K xG53 hLq18 hKq18
  have hLq18 := ext_L xG53 hLq18
  have hKq25 := ext_K xG53 hLq25 hKq25
  have hLq25 := ext_L xG53 hLq25
  have hKq26 := ext_K xG53 hLq26 hKq26
  have hLq26 := ext_L xG53 hLq26
  have hKq33 := ext_K xG53 hLq33 hKq33
  have hLq33 := ext_L xG53 hLq33
  have hKq34 := ext_K xG53 hLq34 hKq34
  have hLq34 := ext_L xG53 hLq34
  have hKq41 := ext_K xG53 hLq41 hKq41
  have hLq41 := ext_L xG53 hLq41
  have hKq42 := ext_K xG53 hLq42 hKq42
  have hLq42 := ext_L xG53 hLq42
  have hKq49 := ext_K xG53 hLq49 hKq49
  have hLq49 := ext_L xG53 hLq49
  have hKq50 := ext_K xG53 hLq50 hKq50
  have hLq50 := ext_L xG53 hLq50
  have hext := ext_tr hext xG53
  obtain ⟨z55, h⟩ := h
  refine r_astR cx w hLq49 hKq49 hLq50 hKq50 z55 dX8_init_58 (fun H locs w cx => ?_)
  obtain ⟨G56, eG56⟩ : ∃ z, z = gSt G53 q49 (Int32.toNatClampNeg (4 : Int32)) q50 := ⟨_, rfl⟩
  rw [← eG56] at w cx
  have h := h G56 eG56
  have xG56 := ext_st eG56
  have hKa0 := ext_K xG56 hLa0 hKa0
  have hLa0 := ext_L xG56 hLa0
  have hKq1 := ext_K xG56 hLq1 hKq1
  have hLq1 := ext_L xG56 hLq1
  have hKq5 := ext_K xG56 hLq5 hKq5
  have hLq5 := ext_L xG56 hLq5
  have hKq9 := ext_K xG56 hLq9 hKq9
  have hLq9 := ext_L xG56 hLq9
  have hKq13 := ext_K xG56 hLq13 hKq13
  have hLq13 := ext_L xG56 hLq13
  have hKq17 := ext_K xG56 hLq17 hKq17
  have hLq17 := ext_L xG56 hLq17
  have hKq18 := ext_K xG56 hLq18 hKq18
  have hLq18 := ext_L xG56 hLq18
  have hKq25 := ext_K xG56 hLq25 hKq25
  have hLq25 := ext_L xG56 hLq25
  have hKq26 := ext_K xG56 hLq26 hKq26
  have hLq26 := ext_L xG56 hLq26
  have hKq33 := ext_K xG56 hLq33 hKq33
  have hLq33 := ext_L xG56 hLq33
  have hKq34 := ext_K xG56 hLq34 hKq34
  have hLq34 := ext_L xG56 hLq34
  have hKq41 := ext_K xG56 hLq41 hKq41
  have hLq41 := ext_L xG56 hLq41
  have hKq42 := ext_K xG56 hLq42 hKq42
  have hLq42 := ext_L xG56 hLq42
  have hKq49 := ext_K xG56 hLq49 hKq49
  have hLq49 := ext_L xG56 hLq49
  have hKq50 := ext_K xG56 hLq50 hKq50
  have hLq50 := ext_L xG56 hLq50
  have hext := ext_tr hext xG56
  refine lv_iinc (v := (5 : Int32)) (lv' := [(1, .int ((5 : Int32))), (0, .ref a0)]) hx hb dX8_init_59 hl (k := 0) rfl (by decide) (by decide) rfl (fun ls hl => ?_)
  refine lv_goto (tgt := 40) hx hb dX8_init_62 (by decide) ?_
  refine lv_iload_n hx hb dX8_init_40 rfl (lv_at hl 0 rfl) ?_
  refine lv_bipush (v := (6 : Int32)) hx hb dX8_init_41 (by decide) ?_
  refine lv_icmp_ge (tgt := 65) hx hb dX8_init_43 (by decide) (fun k => absurd k (by decide)) (fun _ => ?_)
  refine lv_aload_n hx hb dX8_init_46 rfl (lv_at hl 1 rfl) ?_
  obtain ⟨q57, eq57, h⟩ := h
  obtain ⟨hLq57, hKq57⟩ := wt_q (cX_wt cx) hLa0 hKa0 eq57
  have hKq57 : gK G56 q57 = 14 := hKq57
  refine r_getR (k := 3) cx w hLa0 hKa0 (by decide) rfl wk_X8_init_X8 (by decide) rfl eq57 (List.mem_of_getElem? (i := 9) rfl) dX8_init_47 ?_
  refine lv_iload_n hx hb dX8_init_50 rfl (lv_at hl 0 rfl) ?_
  refine r_newO cx w tyX0 tyX0_ok rfl (by decide) wk_X8_init_X0 (List.mem_of_getElem? (i := 8) rfl) (List.mem_of_getElem? (i := 10) rfl) (List.mem_of_getElem? (i := 11) rfl) df_0 (Nat.le_of_ble_eq_true rfl) (Nat.le_of_ble_eq_true rfl) dX8_init_51 (fun q58 H nq58 w cx => ?_)
  obtain ⟨G59, eG59⟩ : ∃ z, z = gNw G56 q58 0 0 := ⟨_, rfl⟩
  obtain ⟨M60, eM60⟩ : ∃ z, z = wZ M54 q58 := ⟨_, rfl⟩
  rw [← eG59] at cx
  rw [← eG59, ← eM60] at w
  have h := h q58 nq58 G59 eG59 M60 eM60
  have xG59 := ext_nw eG59 nq58
  have hKa0 := ext_K xG59 hLa0 hKa0
  have hLa0 := ext_L xG59 hLa0
  have hKq1 := ext_K xG59 hLq1 hKq1
  have hLq1 := ext_L xG59 hLq1
  have hKq5 := ext_K xG59 hLq5 hKq5
  have hLq5 := ext_L xG59 hLq5
  have hKq9 := ext_K xG59 hLq9 hKq9
  have hLq9 := ext_L xG59 hLq9
  have hKq13 := ext_K xG59 hLq13 hKq13
  have hLq13 := ext_L xG59 hLq13
  have hKq17 := ext_K xG59 hLq17 hKq17
  have hLq17 := ext_L xG59 hLq17
  have hKq18 := ext_K xG59 hLq18 hKq18
  have hLq18 := ext_L xG59 hLq18
  have hKq25 := ext_K xG59 hLq25 hKq25
  have hLq25 := ext_L xG59 hLq25
  have hKq26 := ext_K xG59 hLq26 hKq26
  have hLq26 := ext_L xG59 hLq26
  have hKq33 := ext_K xG59 hLq33 hKq33
  have hLq33 := ext_L xG59 hLq33
  have hKq34 := ext_K xG59 hLq34 hKq34
  have hLq34 := ext_L xG59 hLq34
  have hKq41 := ext_K xG59 hLq41 hKq41
  have hLq41 := ext_L xG59 hLq41
  have hKq42 := ext_K xG59 hLq42 hKq42
  have hLq42 := ext_L xG59 hLq42
  have hKq49 := ext_K xG59 hLq49 hKq49
  have hLq49 := ext_L xG59 hLq49
  have hKq50 := ext_K xG59 hLq50 hKq50
  have hLq50 := ext_L xG59 hLq50
  have hKq57 := ext_K xG59 hLq57 hKq57
  have hLq57 := ext_L xG59 hLq57
  have hext := ext_tr hext xG59
  have hLq58 := nw_Lq eG59
  have hKq58 := nw_Kq eG59
  refine lv_dup hx hb dX8_init_54 rfl ?_
  refine r_callNN (As := []) (rest := [.ref q58, .int ((5 : Int32)), .ref q57]) cx w ⟨Nat.le_of_ble_eq_true rfl, Nat.le_of_ble_eq_true rfl⟩ hl.1 (kn_X0_init (cX_wt cx) hLq58 hKq58 h) ⟨va_cnB 0 hts gX8_init_X0_init_n27 rfl rfl rfl (nwM cx (q := (RX8, 27, yX0_init, "FlagAnts")) (List.mem_of_getElem? (i := 4) rfl)) (hts _ (List.mem_of_getElem? (i := 11) rfl)) (by decide +kernel) ⟨Nat.le_of_ble_eq_true rfl, Nat.le_of_ble_eq_true rfl⟩, rfl, hts _ (List.mem_of_getElem? (i := 12) rfl)⟩ rfl rfl (Nat.le_of_ble_eq_true rfl) dX8_init_55 (fun G61 M62 H locs h xG61 cx w => ?_)
  have hKa0 := ext_K xG61 hLa0 hKa0
  have hLa0 := ext_L xG61 hLa0
  have hKq1 := ext_K xG61 hLq1 hKq1
  have hLq1 := ext_L xG61 hLq1
  have hKq5 := ext_K xG61 hLq5 hKq5
  have hLq5 := ext_L xG61 hLq5
  have hKq9 := ext_K xG61 hLq9 hKq9
  have hLq9 := ext_L xG61 hLq9
  have hKq13 := ext_K xG61 hLq13 hKq13
  have hLq13 := ext_L xG61 hLq13
  have hKq17 := ext_K xG61 hLq17 hKq17
  have hLq17 := ext_L xG61 hLq17
  have hKq18 := ext_K xG61 hLq18 hKq18
  have hLq18 := ext_L xG61 hLq18
  have hKq25 := ext_K xG61 hLq25 hKq25
  have hLq25 := ext_L xG61 hLq25
  have hKq26 := ext_K xG61 hLq26 hKq26
  have hLq26 := ext_L xG61 hLq26
  have hKq33 := ext_K xG61 hLq33 hKq33
  have hLq33 := ext_L xG61 hLq33
  have hKq34 := ext_K xG61 hLq34 hKq34
  have hLq34 := ext_L xG61 hLq34
  have hKq41 := ext_K xG61 hLq41 hKq41
  have hLq41 := ext_L xG61 hLq41
  have hKq42 := ext_K xG61 hLq42 hKq42
  have hLq42 := ext_L xG61 hLq42
  have hKq49 := ext_K xG61 hLq49 hKq49
  have hLq49 := ext_L xG61 hLq49
  have hKq50 := ext_K xG61 hLq50 hKq50
  have hLq50 := ext_L xG61 hLq50
  have hKq57 := ext_K xG61 hLq57 hKq57
  have hLq57 := ext_L xG61 hLq57
  have hKq58 := ext_K xG61 hLq58 hKq58
  have hLq58 := ext_L xG61 hLq58
  have hext := ext_tr hext xG61
  obtain ⟨z63, h⟩ := h
  refine r_astR cx w hLq57 hKq57 hLq58 hKq58 z63 dX8_init_58 (fun H locs w cx => ?_)
  obtain ⟨G64, eG64⟩ : ∃ z, z = gSt G61 q57 (Int32.toNatClampNeg (5 : Int32)) q58 := ⟨_, rfl⟩
  rw [← eG64] at w cx
  have h := h G64 eG64
  have xG64 := ext_st eG64
  have hKa0 := ext_K xG64 hLa0 hKa0
  have hLa0 := ext_L xG64 hLa0
  have hKq1 := ext_K xG64 hLq1 hKq1
  have hLq1 := ext_L xG64 hLq1
  have hKq5 := ext_K xG64 hLq5 hKq5
  have hLq5 := ext_L xG64 hLq5
  have hKq9 := ext_K xG64 hLq9 hKq9
  have hLq9 := ext_L xG64 hLq9
  have hKq13 := ext_K xG64 hLq13 hKq13
  have hLq13 := ext_L xG64 hLq13
  have hKq17 := ext_K xG64 hLq17 hKq17
  have hLq17 := ext_L xG64 hLq17
  have hKq18 := ext_K xG64 hLq18 hKq18
  have hLq18 := ext_L xG64 hLq18
  have hKq25 := ext_K xG64 hLq25 hKq25
  have hLq25 := ext_L xG64 hLq25
  have hKq26 := ext_K xG64 hLq26 hKq26
  have hLq26 := ext_L xG64 hLq26
  have hKq33 := ext_K xG64 hLq33 hKq33
  have hLq33 := ext_L xG64 hLq33
  have hKq34 := ext_K xG64 hLq34 hKq34
  have hLq34 := ext_L xG64 hLq34
  have hKq41 := ext_K xG64 hLq41 hKq41
  have hLq41 := ext_L xG64 hLq41
  have hKq42 := ext_K xG64 hLq42 hKq42
  have hLq42 := ext_L xG64 hLq42
  have hKq49 := ext_K xG64 hLq49 hKq49
  have hLq49 := ext_L xG64 hLq49
  have hKq50 := ext_K xG64 hLq50 hKq50
  have hLq50 := ext_L xG64 hLq50
  have hKq57 := ext_K xG64 hLq57 hKq57
  have hLq57 := ext_L xG64 hLq57
  have hKq58 := ext_K xG64 hLq58 hKq58
  have hLq58 := ext_L xG64 hLq58
  have hext := ext_tr hext xG64
  refine lv_iinc (v := (6 : Int32)) (lv' := [(1, .int ((6 : Int32))), (0, .ref a0)]) hx hb dX8_init_59 hl (k := 0) rfl (by decide) (by decide) rfl (fun ls hl => ?_)
  refine lv_goto (tgt := 40) hx hb dX8_init_62 (by decide) ?_
  refine lv_iload_n hx hb dX8_init_40 rfl (lv_at hl 0 rfl) ?_
  refine lv_bipush (v := (6 : Int32)) hx hb dX8_init_41 (by decide) ?_
  refine lv_icmp_ge (tgt := 65) hx hb dX8_init_43 (by decide) (fun _ => ?_) (fun k => absurd (by decide) k)
  refine lv_aload_n hx hb dX8_init_65 rfl (lv_at hl 1 rfl) ?_
  obtain ⟨q65, eq65, h⟩ := h
  obtain ⟨hLq65, hKq65⟩ := wt_q (cX_wt cx) hLa0 hKa0 eq65
  have hKq65 : gK G64 q65 = 12 := hKq65
  refine r_getR (k := 2) cx w hLa0 hKa0 (by decide) rfl wk_X8_init_X8 (by decide) rfl eq65 (List.mem_of_getElem? (i := 7) rfl) dX8_init_66 ?_
  refine lv_iconst (v := (0 : Int32)) hx hb dX8_init_69 (by decide) ?_
  refine lv_sipush (v := (4096 : Int32)) hx hb dX8_init_70 (by decide) ?_
  obtain ⟨z66, h⟩ := h
  obtain ⟨M67, eM67⟩ : ∃ z, z = wI M62 q65 (Int32.toNatClampNeg (0 : Int32)) (4096 : Int32) := ⟨_, rfl⟩
  have h := h M67 eM67
  refine r_iast cx w hLq65 hKq65 z66 dX8_init_73 eM67 (fun H locs w => ?_)
  exact r_vretN cx w h hext (Nat.le_of_ble_eq_true rfl) (Nat.le_of_ble_eq_true rfl) dX8_init_74
theorem wk_X4_init_X4 : ∀ w ∈ wsX40, w ∈ wsX4_init := by decide +kernel
abbrev rnX4_init : Room := { frames := 1, cells := 1, slots := 64, locals := 60 }
def n_X4_init (G : gS) (M : mS) (a0 : Nat) (post : gS → mS → Prop) : Prop := ∀ q1, q1 ∉ gL G → ∀ G2, G2 = gNw G q1 12 64 → ∀ M3, M3 = wZ M q1 → (∀ G4, G4 = gSt G2 a0 0 q1 → (post G4 M3))
set_option maxHeartbeats 4000000 in
set_option maxRecDepth 100000 in
theorem kn_X4_init {l : Launch} {D : va_G} {cy : cyS} {G : gS} {M : mS} {post : gS → mS → Prop} {a0 : Nat} (hG : wt G) (hLa0 : a0 ∈ gL G) (hKa0 : gK G a0 = 3) (h : n_X4_init G M a0 post) : ctN l yX4_init wsX4_init rnX4_init D cy G M [.ref a0] 1 64 post := by
  unfold n_X4_init at h
  refine ctN_of (cc := cX4_init) (nL := 1) (lv := [(0, .ref a0)]) hG (by decide) rfl (Nat.le_of_ble_eq_true rfl) rfl ?_
  intro p e s m args below meth c sz ls hini cx w hl
  obtain ⟨hx, hb, hml, hown, hts, hr, hlocks, hK, hA, -, hsx⟩ := id cx
  have hini : meth.name = "<init>" := hini
  have hext := ext_rf (G := G)
  refine lv_aload_n hx hb dX4_init_0 rfl (lv_at hl 0 rfl) ?_
  refine W.objInit hx hb hown (hts (.methodLink RX4 1 objectInit) (List.mem_of_getElem? (i := 1) rfl)) (hts (.instanceMethod objectInit) (List.mem_of_getElem? (i := 2) rfl)) (hts _ (List.mem_of_getElem? (i := 3) rfl)) rfl (by rw [hml]; exact hl.1) rfl dX4_init_1 (Nat.le_of_ble_eq_true rfl) (Nat.le_of_ble_eq_true rfl) ?_
  refine W.eq (g2 := F0 m 4 ls []) rfl ?_
  refine lv_aload_n hx hb dX4_init_4 rfl (lv_at hl 0 rfl) ?_
  refine lv_bipush (v := (64 : Int32)) hx hb dX4_init_5 (by decide) ?_
  refine r_newI (N := 64) cx w (List.mem_of_getElem? (i := 4) rfl) (by decide) (by decide) (Nat.le_of_ble_eq_true rfl) (Nat.le_of_ble_eq_true rfl) (Nat.le_of_ble_eq_true rfl) dX4_init_7 (fun q1 H nq1 w cx => ?_)
  obtain ⟨G2, eG2⟩ : ∃ z, z = gNw G q1 12 64 := ⟨_, rfl⟩
  obtain ⟨M3, eM3⟩ : ∃ z, z = wZ M q1 := ⟨_, rfl⟩
  rw [← eG2] at cx
  rw [← eG2, ← eM3] at w
  have h := h q1 nq1 G2 eG2 M3 eM3
  have xG2 := ext_nw eG2 nq1
  have hKa0 := ext_K xG2 hLa0 hKa0
  have hLa0 := ext_L xG2 hLa0
  have hext := ext_tr hext xG2
  have hLq1 := nw_Lq eG2
  have hKq1 := nw_Kq eG2
  refine r_putRF (k := 0) cx w tyX4 tyX4_ok nmX4 hLa0 hKa0 (by decide) rfl wk_X4_init_X4 (by decide) rfl hini rfl (tyX4_ok 0 (by decide)) rfl rfl sr_3_0 (ln_3 _ _ (by decide)) hLq1 (by rw [hKq1]; rfl) (List.mem_of_getElem? (i := 5) rfl) dX4_init_9 (fun H locs w cx => ?_)
  obtain ⟨G4, eG4⟩ : ∃ z, z = gSt G2 a0 0 q1 := ⟨_, rfl⟩
  rw [← eG4] at w cx
  have h := h G4 eG4
  have xG4 := ext_st eG4
  have hKa0 := ext_K xG4 hLa0 hKa0
  have hLa0 := ext_L xG4 hLa0
  have hKq1 := ext_K xG4 hLq1 hKq1
  have hLq1 := ext_L xG4 hLq1
  have hext := ext_tr hext xG4
  exact r_vretN cx w h hext (Nat.le_of_ble_eq_true rfl) (Nat.le_of_ble_eq_true rfl) dX4_init_12
theorem wk_X5_init_X4 : ∀ w ∈ wsX40, w ∈ wsX5_init := by decide +kernel
theorem wk_X5_init_X5 : ∀ w ∈ wsX50, w ∈ wsX5_init := by decide +kernel
abbrev rnX5_init : Room := { frames := 2, cells := 2, slots := 66, locals := 80 }
def n_X5_init (G : gS) (M : mS) (a0 : Nat) (a1 : Nat) (post : gS → mS → Prop) : Prop := ∀ q1, q1 ∉ gL G → ∀ G2, G2 = gNw G q1 3 0 → ∀ M3, M3 = wZ M q1 → (n_X4_init G2 M3 q1 (fun G4 M5 => ∀ G6, G6 = gSt G4 a0 1 q1 → (∀ G7, G7 = gSt G6 a0 0 a1 → (post G7 M5))))
set_option maxHeartbeats 4000000 in
set_option maxRecDepth 100000 in
theorem kn_X5_init {l : Launch} {D : va_G} {cy : cyS} {G : gS} {M : mS} {post : gS → mS → Prop} {a0 : Nat} {a1 : Nat} (hG : wt G) (hLa0 : a0 ∈ gL G) (hKa0 : gK G a0 = 4) (hLa1 : a1 ∈ gL G) (hKa1 : gK G a1 = 2) (h : n_X5_init G M a0 a1 post) : ctN l yX5_init wsX5_init rnX5_init D cy G M [.ref a0, .ref a1] 2 66 post := by
  unfold n_X5_init at h
  refine ctN_of (cc := cX5_init) (nL := 2) (lv := [(0, .ref a0), (1, .ref a1)]) hG (by decide) rfl (Nat.le_of_ble_eq_true rfl) rfl ?_
  intro p e s m args below meth c sz ls hini cx w hl
  obtain ⟨hx, hb, hml, hown, hts, hr, hlocks, hK, hA, -, hsx⟩ := id cx
  have hini : meth.name = "<init>" := hini
  have hext := ext_rf (G := G)
  refine lv_aload_n hx hb dX5_init_0 rfl (lv_at hl 0 rfl) ?_
  refine W.objInit hx hb hown (hts (.methodLink RX5 1 objectInit) (List.mem_of_getElem? (i := 1) rfl)) (hts (.instanceMethod objectInit) (List.mem_of_getElem? (i := 2) rfl)) (hts _ (List.mem_of_getElem? (i := 3) rfl)) rfl (by rw [hml]; exact hl.1) rfl dX5_init_1 (Nat.le_of_ble_eq_true rfl) (Nat.le_of_ble_eq_true rfl) ?_
  refine W.eq (g2 := F0 m 4 ls []) rfl ?_
  refine lv_aload_n hx hb dX5_init_4 rfl (lv_at hl 0 rfl) ?_
  refine r_newO cx w tyX4 tyX4_ok rfl (by decide) wk_X5_init_X4 (List.mem_of_getElem? (i := 4) rfl) (List.mem_of_getElem? (i := 5) rfl) (List.mem_of_getElem? (i := 6) rfl) df_3 (Nat.le_of_ble_eq_true rfl) (Nat.le_of_ble_eq_true rfl) dX5_init_5 (fun q1 H nq1 w cx => ?_)
  obtain ⟨G2, eG2⟩ : ∃ z, z = gNw G q1 3 0 := ⟨_, rfl⟩
  obtain ⟨M3, eM3⟩ : ∃ z, z = wZ M q1 := ⟨_, rfl⟩
  rw [← eG2] at cx
  rw [← eG2, ← eM3] at w
  have h := h q1 nq1 G2 eG2 M3 eM3
  have xG2 := ext_nw eG2 nq1
  have hKa0 := ext_K xG2 hLa0 hKa0
  have hLa0 := ext_L xG2 hLa0
  have hKa1 := ext_K xG2 hLa1 hKa1
  have hLa1 := ext_L xG2 hLa1
  have hext := ext_tr hext xG2
  have hLq1 := nw_Lq eG2
  have hKq1 := nw_Kq eG2
  refine lv_dup hx hb dX5_init_8 rfl ?_
  refine r_callNN (As := []) (rest := [.ref q1, .ref a0]) cx w ⟨Nat.le_of_ble_eq_true rfl, Nat.le_of_ble_eq_true rfl⟩ hl.1 (kn_X4_init (cX_wt cx) hLq1 hKq1 h) ⟨va_cnB 0 hts gX5_init_X4_init_n9 rfl rfl rfl (nwM cx (q := (RX5, 9, yX4_init, "FlagAnts")) (List.mem_of_getElem? (i := 3) rfl)) (hts _ (List.mem_of_getElem? (i := 6) rfl)) (by decide +kernel) ⟨Nat.le_of_ble_eq_true rfl, Nat.le_of_ble_eq_true rfl⟩, rfl, hts _ (List.mem_of_getElem? (i := 9) rfl)⟩ rfl rfl (Nat.le_of_ble_eq_true rfl) dX5_init_9 (fun G4 M5 H locs h xG4 cx w => ?_)
  have hKa0 := ext_K xG4 hLa0 hKa0
  have hLa0 := ext_L xG4 hLa0
  have hKa1 := ext_K xG4 hLa1 hKa1
  have hLa1 := ext_L xG4 hLa1
  have hKq1 := ext_K xG4 hLq1 hKq1
  have hLq1 := ext_L xG4 hLq1
  have hext := ext_tr hext xG4
  refine r_putRF (k := 1) cx w tyX5 tyX5_ok nmX5 hLa0 hKa0 (by decide) rfl wk_X5_init_X5 (by decide) rfl hini rfl (tyX5_ok 1 (by decide)) rfl rfl sr_4_1 (ln_4 _ _ (by decide)) hLq1 (by rw [hKq1]; rfl) (List.mem_of_getElem? (i := 7) rfl) dX5_init_12 (fun H locs w cx => ?_)
  obtain ⟨G6, eG6⟩ : ∃ z, z = gSt G4 a0 1 q1 := ⟨_, rfl⟩
  rw [← eG6] at w cx
  have h := h G6 eG6
  have xG6 := ext_st eG6
  have hKa0 := ext_K xG6 hLa0 hKa0
  have hLa0 := ext_L xG6 hLa0
  have hKa1 := ext_K xG6 hLa1 hKa1
  have hLa1 := ext_L xG6 hLa1
  have hKq1 := ext_K xG6 hLq1 hKq1
  have hLq1 := ext_L xG6 hLq1
  have hext := ext_tr hext xG6
  refine lv_aload_n hx hb dX5_init_15 rfl (lv_at hl 0 rfl) ?_
  refine lv_aload_n hx hb dX5_init_16 rfl (lv_at hl 1 rfl) ?_
  refine r_putRF (k := 0) cx w tyX5 tyX5_ok nmX5 hLa0 hKa0 (by decide) rfl wk_X5_init_X5 (by decide) rfl hini rfl (tyX5_ok 0 (by decide)) rfl rfl sr_4_0 (ln_4 _ _ (by decide)) hLa1 (by rw [hKa1]; rfl) (List.mem_of_getElem? (i := 8) rfl) dX5_init_17 (fun H locs w cx => ?_)
  obtain ⟨G7, eG7⟩ : ∃ z, z = gSt G6 a0 0 a1 := ⟨_, rfl⟩
  rw [← eG7] at w cx
  have h := h G7 eG7
  have xG7 := ext_st eG7
  have hKa0 := ext_K xG7 hLa0 hKa0
  have hLa0 := ext_L xG7 hLa0
  have hKa1 := ext_K xG7 hLa1 hKa1
  have hLa1 := ext_L xG7 hLa1
  have hKq1 := ext_K xG7 hLq1 hKq1
  have hLq1 := ext_L xG7 hLq1
  have hext := ext_tr hext xG7
  exact r_vretN cx w h hext (Nat.le_of_ble_eq_true rfl) (Nat.le_of_ble_eq_true rfl) dX5_init_20
theorem wk_X7_init_X7 : ∀ w ∈ wsX70, w ∈ wsX7_init := by decide +kernel
abbrev rnX7_init : Room := { frames := 5, cells := 4, slots := 1236, locals := 110 }
def n_X7_init (G : gS) (M : mS) (a0 : Nat) (a1 : Nat) (post : gS → mS → Prop) : Prop := ∀ q1, q1 ∉ gL G → ∀ G2, G2 = gNw G q1 13 33 → ∀ M3, M3 = wZ M q1 → (∀ G4, G4 = gSt G2 a0 1 q1 → (∀ q5, q5 ∉ gL G4 → ∀ G6, G6 = gNw G4 q5 12 401 → ∀ M7, M7 = wZ M3 q5 → (∀ G8, G8 = gSt G6 a0 2 q5 → (∀ q9, q9 ∉ gL G8 → ∀ G10, G10 = gNw G8 q9 12 401 → ∀ M11, M11 = wZ M7 q9 → (∀ G12, G12 = gSt G10 a0 3 q9 → (∀ q13, q13 ∉ gL G12 → ∀ G14, G14 = gNw G12 q13 13 401 → ∀ M15, M15 = wZ M11 q13 → (∀ G16, G16 = gSt G14 a0 4 q13 → (∀ G17, G17 = gSt G16 a0 0 a1 → (∃ M18, m_X7_packWords G17 M15 a0 = some (M18, ()) ∧ (post G17 M18))))))))))
set_option maxHeartbeats 4000000 in
set_option maxRecDepth 100000 in
theorem kn_X7_init {l : Launch} {D : va_G} {cy : cyS} {G : gS} {M : mS} {post : gS → mS → Prop} {a0 : Nat} {a1 : Nat} (hG : wt G) (hLa0 : a0 ∈ gL G) (hKa0 : gK G a0 = 6) (hLa1 : a1 ∈ gL G) (hKa1 : gK G a1 = 5) (h : n_X7_init G M a0 a1 post) : ctN l yX7_init wsX7_init rnX7_init D cy G M [.ref a0, .ref a1] 4 1236 post := by
  unfold n_X7_init at h
  refine ctN_of (cc := cX7_init) (nL := 2) (lv := [(0, .ref a0), (1, .ref a1)]) hG (by decide) rfl (Nat.le_of_ble_eq_true rfl) rfl ?_
  intro p e s m args below meth c sz ls hini cx w hl
  obtain ⟨hx, hb, hml, hown, hts, hr, hlocks, hK, hA, -, hsx⟩ := id cx
  have hini : meth.name = "<init>" := hini
  have hext := ext_rf (G := G)
  refine lv_aload_n hx hb dX7_init_0 rfl (lv_at hl 0 rfl) ?_
  refine W.objInit hx hb hown (hts (.methodLink RX7 1 objectInit) (List.mem_of_getElem? (i := 1) rfl)) (hts (.instanceMethod objectInit) (List.mem_of_getElem? (i := 2) rfl)) (hts _ (List.mem_of_getElem? (i := 3) rfl)) rfl (by rw [hml]; exact hl.1) rfl dX7_init_1 (Nat.le_of_ble_eq_true rfl) (Nat.le_of_ble_eq_true rfl) ?_
  refine W.eq (g2 := F0 m 4 ls []) rfl ?_
  refine lv_aload_n hx hb dX7_init_4 rfl (lv_at hl 0 rfl) ?_
  refine lv_bipush (v := (33 : Int32)) hx hb dX7_init_5 (by decide) ?_
  refine r_newJ (N := 33) cx w (List.mem_of_getElem? (i := 4) rfl) (by decide) (by decide) (Nat.le_of_ble_eq_true rfl) (Nat.le_of_ble_eq_true rfl) (Nat.le_of_ble_eq_true rfl) dX7_init_7 (fun q1 H nq1 w cx => ?_)
  obtain ⟨G2, eG2⟩ : ∃ z, z = gNw G q1 13 33 := ⟨_, rfl⟩
  obtain ⟨M3, eM3⟩ : ∃ z, z = wZ M q1 := ⟨_, rfl⟩
  rw [← eG2] at cx
  rw [← eG2, ← eM3] at w
  have h := h q1 nq1 G2 eG2 M3 eM3
  have xG2 := ext_nw eG2 nq1
  have hKa0 := ext_K xG2 hLa0 hKa0
  have hLa0 := ext_L xG2 hLa0
  have hKa1 := ext_K xG2 hLa1 hKa1
  have hLa1 := ext_L xG2 hLa1
  have hext := ext_tr hext xG2
  have hLq1 := nw_Lq eG2
  have hKq1 := nw_Kq eG2
  refine r_putRF (k := 1) cx w tyX7 tyX7_ok nmX7 hLa0 hKa0 (by decide) rfl wk_X7_init_X7 (by decide) rfl hini rfl (tyX7_ok 1 (by decide)) rfl rfl sr_6_1 (ln_6 _ _ (by decide)) hLq1 (by rw [hKq1]; rfl) (List.mem_of_getElem? (i := 5) rfl) dX7_init_9 (fun H locs w cx => ?_)
  obtain ⟨G4, eG4⟩ : ∃ z, z = gSt G2 a0 1 q1 := ⟨_, rfl⟩
  rw [← eG4] at w cx
  have h := h G4 eG4
  have xG4 := ext_st eG4
  have hKa0 := ext_K xG4 hLa0 hKa0
  have hLa0 := ext_L xG4 hLa0
  have hKa1 := ext_K xG4 hLa1 hKa1
  have hLa1 := ext_L xG4 hLa1
  have hKq1 := ext_K xG4 hLq1 hKq1
  have hLq1 := ext_L xG4 hLq1
  have hext := ext_tr hext xG4
  refine lv_aload_n hx hb dX7_init_12 rfl (lv_at hl 0 rfl) ?_
  refine lv_sipush (v := (401 : Int32)) hx hb dX7_init_13 (by decide) ?_
  refine r_newI (N := 401) cx w (List.mem_of_getElem? (i := 6) rfl) (by decide) (by decide) (Nat.le_of_ble_eq_true rfl) (Nat.le_of_ble_eq_true rfl) (Nat.le_of_ble_eq_true rfl) dX7_init_16 (fun q5 H nq5 w cx => ?_)
  obtain ⟨G6, eG6⟩ : ∃ z, z = gNw G4 q5 12 401 := ⟨_, rfl⟩
  obtain ⟨M7, eM7⟩ : ∃ z, z = wZ M3 q5 := ⟨_, rfl⟩
  rw [← eG6] at cx
  rw [← eG6, ← eM7] at w
  have h := h q5 nq5 G6 eG6 M7 eM7
  have xG6 := ext_nw eG6 nq5
  have hKa0 := ext_K xG6 hLa0 hKa0
  have hLa0 := ext_L xG6 hLa0
  have hKa1 := ext_K xG6 hLa1 hKa1
  have hLa1 := ext_L xG6 hLa1
  have hKq1 := ext_K xG6 hLq1 hKq1
  have hLq1 := ext_L xG6 hLq1
  have hext := ext_tr hext xG6
  have hLq5 := nw_Lq eG6
  have hKq5 := nw_Kq eG6
  refine r_putRF (k := 2) cx w tyX7 tyX7_ok nmX7 hLa0 hKa0 (by decide) rfl wk_X7_init_X7 (by decide) rfl hini rfl (tyX7_ok 2 (by decide)) rfl rfl sr_6_2 (ln_6 _ _ (by decide)) hLq5 (by rw [hKq5]; rfl) (List.mem_of_getElem? (i := 7) rfl) dX7_init_18 (fun H locs w cx => ?_)
  obtain ⟨G8, eG8⟩ : ∃ z, z = gSt G6 a0 2 q5 := ⟨_, rfl⟩
  rw [← eG8] at w cx
  have h := h G8 eG8
  have xG8 := ext_st eG8
  have hKa0 := ext_K xG8 hLa0 hKa0
  have hLa0 := ext_L xG8 hLa0
  have hKa1 := ext_K xG8 hLa1 hKa1
  have hLa1 := ext_L xG8 hLa1
  have hKq1 := ext_K xG8 hLq1 hKq1
  have hLq1 := ext_L xG8 hLq1
  have hKq5 := ext_K xG8 hLq5 hKq5
  have hLq5 := ext_L xG8 hLq5
  have hext := ext_tr hext xG8
  refine lv_aload_n hx hb dX7_init_21 rfl (lv_at hl 0 rfl) ?_
  refine lv_sipush (v := (401 : Int32)) hx hb dX7_init_22 (by decide) ?_
  refine r_newI (N := 401) cx w (List.mem_of_getElem? (i := 6) rfl) (by decide) (by decide) (Nat.le_of_ble_eq_true rfl) (Nat.le_of_ble_eq_true rfl) (Nat.le_of_ble_eq_true rfl) dX7_init_25 (fun q9 H nq9 w cx => ?_)
  obtain ⟨G10, eG10⟩ : ∃ z, z = gNw G8 q9 12 401 := ⟨_, rfl⟩
  obtain ⟨M11, eM11⟩ : ∃ z, z = wZ M7 q9 := ⟨_, rfl⟩
  rw [← eG10] at cx
  rw [← eG10, ← eM11] at w
  have h := h q9 nq9 G10 eG10 M11 eM11
  have xG10 := ext_nw eG10 nq9
  have hKa0 := ext_K xG10 hLa0 hKa0
  have hLa0 := ext_L xG10 hLa0
  have hKa1 := ext_K xG10 hLa1 hKa1
  have hLa1 := ext_L xG10 hLa1
  have hKq1 := ext_K xG10 hLq1 hKq1
  have hLq1 := ext_L xG10 hLq1
  have hKq5 := ext_K xG10 hLq5 hKq5
  have hLq5 := ext_L xG10 hLq5
  have hext := ext_tr hext xG10
  have hLq9 := nw_Lq eG10
  have hKq9 := nw_Kq eG10
  refine r_putRF (k := 3) cx w tyX7 tyX7_ok nmX7 hLa0 hKa0 (by decide) rfl wk_X7_init_X7 (by decide) rfl hini rfl (tyX7_ok 3 (by decide)) rfl rfl sr_6_3 (ln_6 _ _ (by decide)) hLq9 (by rw [hKq9]; rfl) (List.mem_of_getElem? (i := 8) rfl) dX7_init_27 (fun H locs w cx => ?_)
  obtain ⟨G12, eG12⟩ : ∃ z, z = gSt G10 a0 3 q9 := ⟨_, rfl⟩
  rw [← eG12] at w cx
  have h := h G12 eG12
  have xG12 := ext_st eG12
  have hKa0 := ext_K xG12 hLa0 hKa0
  have hLa0 := ext_L xG12 hLa0
  have hKa1 := ext_K xG12 hLa1 hKa1
  have hLa1 := ext_L xG12 hLa1
  have hKq1 := ext_K xG12 hLq1 hKq1
  have hLq1 := ext_L xG12 hLq1
  have hKq5 := ext_K xG12 hLq5 hKq5
  have hLq5 := ext_L xG12 hLq5
  have hKq9 := ext_K xG12 hLq9 hKq9
  have hLq9 := ext_L xG12 hLq9
  have hext := ext_tr hext xG12
  refine lv_aload_n hx hb dX7_init_30 rfl (lv_at hl 0 rfl) ?_
  refine lv_sipush (v := (401 : Int32)) hx hb dX7_init_31 (by decide) ?_
  refine r_newJ (N := 401) cx w (List.mem_of_getElem? (i := 4) rfl) (by decide) (by decide) (Nat.le_of_ble_eq_true rfl) (Nat.le_of_ble_eq_true rfl) (Nat.le_of_ble_eq_true rfl) dX7_init_34 (fun q13 H nq13 w cx => ?_)
  obtain ⟨G14, eG14⟩ : ∃ z, z = gNw G12 q13 13 401 := ⟨_, rfl⟩
  obtain ⟨M15, eM15⟩ : ∃ z, z = wZ M11 q13 := ⟨_, rfl⟩
  rw [← eG14] at cx
  rw [← eG14, ← eM15] at w
  have h := h q13 nq13 G14 eG14 M15 eM15
  have xG14 := ext_nw eG14 nq13
  have hKa0 := ext_K xG14 hLa0 hKa0
  have hLa0 := ext_L xG14 hLa0
  have hKa1 := ext_K xG14 hLa1 hKa1
  have hLa1 := ext_L xG14 hLa1
  have hKq1 := ext_K xG14 hLq1 hKq1
  have hLq1 := ext_L xG14 hLq1
  have hKq5 := ext_K xG14 hLq5 hKq5
  have hLq5 := ext_L xG14 hLq5
  have hKq9 := ext_K xG14 hLq9 hKq9
  have hLq9 := ext_L xG14 hLq9
  have hext := ext_tr hext xG14
  have hLq13 := nw_Lq eG14
  have hKq13 := nw_Kq eG14
  refine r_putRF (k := 4) cx w tyX7 tyX7_ok nmX7 hLa0 hKa0 (by decide) rfl wk_X7_init_X7 (by decide) rfl hini rfl (tyX7_ok 4 (by decide)) rfl rfl sr_6_4 (ln_6 _ _ (by decide)) hLq13 (by rw [hKq13]; rfl) (List.mem_of_getElem? (i := 9) rfl) dX7_init_36 (fun H locs w cx => ?_)
  obtain ⟨G16, eG16⟩ : ∃ z, z = gSt G14 a0 4 q13 := ⟨_, rfl⟩
  rw [← eG16] at w cx
  have h := h G16 eG16
  have xG16 := ext_st eG16
  have hKa0 := ext_K xG16 hLa0 hKa0
  have hLa0 := ext_L xG16 hLa0
  have hKa1 := ext_K xG16 hLa1 hKa1
  have hLa1 := ext_L xG16 hLa1
  have hKq1 := ext_K xG16 hLq1 hKq1
  have hLq1 := ext_L xG16 hLq1
  have hKq5 := ext_K xG16 hLq5 hKq5
  have hLq5 := ext_L xG16 hLq5
  have hKq9 := ext_K xG16 hLq9 hKq9
  have hLq9 := ext_L xG16 hLq9
  have hKq13 := ext_K xG16 hLq13 hKq13
  have hLq13 := ext_L xG16 hLq13
  have hext := ext_tr hext xG16
  refine lv_aload_n hx hb dX7_init_39 rfl (lv_at hl 0 rfl) ?_
  refine lv_aload_n hx hb dX7_init_40 rfl (lv_at hl 1 rfl) ?_
  refine r_putRF (k := 0) cx w tyX7 tyX7_ok nmX7 hLa0 hKa0 (by decide) rfl wk_X7_init_X7 (by decide) rfl hini rfl (tyX7_ok 0 (by decide)) rfl rfl sr_6_0 (ln_6 _ _ (by decide)) hLa1 (by rw [hKa1]; rfl) (List.mem_of_getElem? (i := 10) rfl) dX7_init_41 (fun H locs w cx => ?_)
  obtain ⟨G17, eG17⟩ : ∃ z, z = gSt G16 a0 0 a1 := ⟨_, rfl⟩
  rw [← eG17] at w cx
  have h := h G17 eG17
  have xG17 := ext_st eG17
  have hKa0 := ext_K xG17 hLa0 hKa0
  have hLa0 := ext_L xG17 hLa0
  have hKa1 := ext_K xG17 hLa1 hKa1
  have hLa1 := ext_L xG17 hLa1
  have hKq1 := ext_K xG17 hLq1 hKq1
  have hLq1 := ext_L xG17 hLq1
  have hKq5 := ext_K xG17 hLq5 hKq5
  have hLq5 := ext_L xG17 hLq5
  have hKq9 := ext_K xG17 hLq9 hKq9
  have hLq9 := ext_L xG17 hLq9
  have hKq13 := ext_K xG17 hLq13 hKq13
  have hLq13 := ext_L xG17 hLq13
  have hext := ext_tr hext xG17
  refine lv_aload_n hx hb dX7_init_44 rfl (lv_at hl 0 rfl) ?_
  obtain ⟨M18, yM18, h⟩ := h
  refine r_callVv (As := []) (rest := []) cx w ⟨Nat.le_of_ble_eq_true rfl, Nat.le_of_ble_eq_true rfl⟩ hl.1 (k_X7_packWords (cX_wt cx) hLa0 hKa0 yM18) (cwV 0 hts gX7_init_X7_packWords rfl rfl rfl (by decide +kernel) ⟨Nat.le_of_ble_eq_true rfl, Nat.le_of_ble_eq_true rfl⟩) hLa0 hKa0 (by decide) rfl rfl rfl (Nat.le_of_ble_eq_true rfl) dX7_init_45 (fun H locs w => ?_)
  exact r_vretN cx w h hext (Nat.le_of_ble_eq_true rfl) (Nat.le_of_ble_eq_true rfl) dX7_init_48
theorem wk_X2_init_X2 : ∀ w ∈ wsX20, w ∈ wsX2_init := by decide +kernel
theorem wk_X2_init_X3 : ∀ w ∈ wsX30, w ∈ wsX2_init := by decide +kernel
theorem wk_X2_init_X7 : ∀ w ∈ wsX70, w ∈ wsX2_init := by decide +kernel
abbrev rnX2_init : Room := { frames := 6, cells := 16, slots := 2179, locals := 131 }
def n_X2_init (G : gS) (M : mS) (a0 : Nat) (a1 : Nat) (a2 : Nat) (post : gS → mS → Prop) : Prop := ∀ q1, q1 ∉ gL G → ∀ G2, G2 = gNw G q1 13 5 → ∀ M3, M3 = wZ M q1 → (∀ G4, G4 = gSt G2 a0 3 q1 → (∀ q5, q5 ∉ gL G4 → ∀ G6, G6 = gNw G4 q5 13 6 → ∀ M7, M7 = wZ M3 q5 → (∀ G8, G8 = gSt G6 a0 4 q5 → (∀ q9, q9 ∉ gL G8 → ∀ G10, G10 = gNw G8 q9 6 0 → ∀ M11, M11 = wZ M7 q9 → (n_X7_init G10 M11 q9 a1 (fun G12 M13 => ∀ G14, G14 = gSt G12 a0 0 q9 → (∀ q15, q15 ∉ gL G14 → ∀ G16, G16 = gNw G14 q15 2 0 → ∀ M17, M17 = wZ M13 q15 → (n_X3_init G16 M17 q15 (fun G18 M19 => ∀ G20, G20 = gSt G18 a0 1 q15 → (∀ G21, G21 = gSt G20 a0 2 a2 → (post G21 M19)))))))))))
set_option maxHeartbeats 4000000 in
set_option maxRecDepth 100000 in
theorem kn_X2_init {l : Launch} {D : va_G} {cy : cyS} {G : gS} {M : mS} {post : gS → mS → Prop} {a0 : Nat} {a1 : Nat} {a2 : Nat} (hG : wt G) (hLa0 : a0 ∈ gL G) (hKa0 : gK G a0 = 1) (hLa1 : a1 ∈ gL G) (hKa1 : gK G a1 = 5) (hLa2 : a2 ∈ gL G) (hKa2 : gK G a2 = 7) (h : n_X2_init G M a0 a1 a2 post) : ctN l yX2_init wsX2_init rnX2_init D cy G M [.ref a0, .ref a1, .ref a2] 16 2179 post := by
  unfold n_X2_init at h
  refine ctN_of (cc := cX2_init) (nL := 3) (lv := [(0, .ref a0), (1, .ref a1), (2, .ref a2)]) hG (by decide) rfl (Nat.le_of_ble_eq_true rfl) rfl ?_
  intro p e s m args below meth c sz ls hini cx w hl
  obtain ⟨hx, hb, hml, hown, hts, hr, hlocks, hK, hA, -, hsx⟩ := id cx
  have hini : meth.name = "<init>" := hini
  have hext := ext_rf (G := G)
  refine lv_aload_n hx hb dX2_init_0 rfl (lv_at hl 0 rfl) ?_
  refine W.objInit hx hb hown (hts (.methodLink RX2 3 objectInit) (List.mem_of_getElem? (i := 1) rfl)) (hts (.instanceMethod objectInit) (List.mem_of_getElem? (i := 2) rfl)) (hts _ (List.mem_of_getElem? (i := 3) rfl)) rfl (by rw [hml]; exact hl.1) rfl dX2_init_1 (Nat.le_of_ble_eq_true rfl) (Nat.le_of_ble_eq_true rfl) ?_
  refine W.eq (g2 := F0 m 4 ls []) rfl ?_
  refine lv_aload_n hx hb dX2_init_4 rfl (lv_at hl 0 rfl) ?_
  refine lv_iconst (v := (5 : Int32)) hx hb dX2_init_5 (by decide) ?_
  refine r_newJ (N := 5) cx w (List.mem_of_getElem? (i := 4) rfl) (by decide) (by decide) (Nat.le_of_ble_eq_true rfl) (Nat.le_of_ble_eq_true rfl) (Nat.le_of_ble_eq_true rfl) dX2_init_6 (fun q1 H nq1 w cx => ?_)
  obtain ⟨G2, eG2⟩ : ∃ z, z = gNw G q1 13 5 := ⟨_, rfl⟩
  obtain ⟨M3, eM3⟩ : ∃ z, z = wZ M q1 := ⟨_, rfl⟩
  rw [← eG2] at cx
  rw [← eG2, ← eM3] at w
  have h := h q1 nq1 G2 eG2 M3 eM3
  have xG2 := ext_nw eG2 nq1
  have hKa0 := ext_K xG2 hLa0 hKa0
  have hLa0 := ext_L xG2 hLa0
  have hKa1 := ext_K xG2 hLa1 hKa1
  have hLa1 := ext_L xG2 hLa1
  have hKa2 := ext_K xG2 hLa2 hKa2
  have hLa2 := ext_L xG2 hLa2
  have hext := ext_tr hext xG2
  have hLq1 := nw_Lq eG2
  have hKq1 := nw_Kq eG2
  refine r_putRF (k := 3) cx w tyX2 tyX2_ok nmX2 hLa0 hKa0 (by decide) rfl wk_X2_init_X2 (by decide) rfl hini rfl (tyX2_ok 3 (by decide)) rfl rfl sr_1_3 (ln_1 _ _ (by decide)) hLq1 (by rw [hKq1]; rfl) (List.mem_of_getElem? (i := 5) rfl) dX2_init_8 (fun H locs w cx => ?_)
  obtain ⟨G4, eG4⟩ : ∃ z, z = gSt G2 a0 3 q1 := ⟨_, rfl⟩
  rw [← eG4] at w cx
  have h := h G4 eG4
  have xG4 := ext_st eG4
  have hKa0 := ext_K xG4 hLa0 hKa0
  have hLa0 := ext_L xG4 hLa0
  have hKa1 := ext_K xG4 hLa1 hKa1
  have hLa1 := ext_L xG4 hLa1
  have hKa2 := ext_K xG4 hLa2 hKa2
  have hLa2 := ext_L xG4 hLa2
  have hKq1 := ext_K xG4 hLq1 hKq1
  have hLq1 := ext_L xG4 hLq1
  have hext := ext_tr hext xG4
  refine lv_aload_n hx hb dX2_init_11 rfl (lv_at hl 0 rfl) ?_
  refine lv_bipush (v := (6 : Int32)) hx hb dX2_init_12 (by decide) ?_
  refine r_newJ (N := 6) cx w (List.mem_of_getElem? (i := 4) rfl) (by decide) (by decide) (Nat.le_of_ble_eq_true rfl) (Nat.le_of_ble_eq_true rfl) (Nat.le_of_ble_eq_true rfl) dX2_init_14 (fun q5 H nq5 w cx => ?_)
  obtain ⟨G6, eG6⟩ : ∃ z, z = gNw G4 q5 13 6 := ⟨_, rfl⟩
  obtain ⟨M7, eM7⟩ : ∃ z, z = wZ M3 q5 := ⟨_, rfl⟩
  rw [← eG6] at cx
  rw [← eG6, ← eM7] at w
  have h := h q5 nq5 G6 eG6 M7 eM7
  have xG6 := ext_nw eG6 nq5
  have hKa0 := ext_K xG6 hLa0 hKa0
  have hLa0 := ext_L xG6 hLa0
  have hKa1 := ext_K xG6 hLa1 hKa1
  have hLa1 := ext_L xG6 hLa1
  have hKa2 := ext_K xG6 hLa2 hKa2
  have hLa2 := ext_L xG6 hLa2
  have hKq1 := ext_K xG6 hLq1 hKq1
  have hLq1 := ext_L xG6 hLq1
  have hext := ext_tr hext xG6
  have hLq5 := nw_Lq eG6
  have hKq5 := nw_Kq eG6
  refine r_putRF (k := 4) cx w tyX2 tyX2_ok nmX2 hLa0 hKa0 (by decide) rfl wk_X2_init_X2 (by decide) rfl hini rfl (tyX2_ok 4 (by decide)) rfl rfl sr_1_4 (ln_1 _ _ (by decide)) hLq5 (by rw [hKq5]; rfl) (List.mem_of_getElem? (i := 6) rfl) dX2_init_16 (fun H locs w cx => ?_)
  obtain ⟨G8, eG8⟩ : ∃ z, z = gSt G6 a0 4 q5 := ⟨_, rfl⟩
  rw [← eG8] at w cx
  have h := h G8 eG8
  have xG8 := ext_st eG8
  have hKa0 := ext_K xG8 hLa0 hKa0
  have hLa0 := ext_L xG8 hLa0
  have hKa1 := ext_K xG8 hLa1 hKa1
  have hLa1 := ext_L xG8 hLa1
  have hKa2 := ext_K xG8 hLa2 hKa2
  have hLa2 := ext_L xG8 hLa2
  have hKq1 := ext_K xG8 hLq1 hKq1
  have hLq1 := ext_L xG8 hLq1
  have hKq5 := ext_K xG8 hLq5 hKq5
  have hLq5 := ext_L xG8 hLq5
  have hext := ext_tr hext xG8
  refine lv_aload_n hx hb dX2_init_19 rfl (lv_at hl 0 rfl) ?_
  refine r_newO cx w tyX7 tyX7_ok rfl (by decide) wk_X2_init_X7 (List.mem_of_getElem? (i := 7) rfl) (List.mem_of_getElem? (i := 8) rfl) (List.mem_of_getElem? (i := 9) rfl) df_6 (Nat.le_of_ble_eq_true rfl) (Nat.le_of_ble_eq_true rfl) dX2_init_20 (fun q9 H nq9 w cx => ?_)
  obtain ⟨G10, eG10⟩ : ∃ z, z = gNw G8 q9 6 0 := ⟨_, rfl⟩
  obtain ⟨M11, eM11⟩ : ∃ z, z = wZ M7 q9 := ⟨_, rfl⟩
  rw [← eG10] at cx
  rw [← eG10, ← eM11] at w
  have h := h q9 nq9 G10 eG10 M11 eM11
  have xG10 := ext_nw eG10 nq9
  have hKa0 := ext_K xG10 hLa0 hKa0
  have hLa0 := ext_L xG10 hLa0
  have hKa1 := ext_K xG10 hLa1 hKa1
  have hLa1 := ext_L xG10 hLa1
  have hKa2 := ext_K xG10 hLa2 hKa2
  have hLa2 := ext_L xG10 hLa2
  have hKq1 := ext_K xG10 hLq1 hKq1
  have hLq1 := ext_L xG10 hLq1
  have hKq5 := ext_K xG10 hLq5 hKq5
  have hLq5 := ext_L xG10 hLq5
  have hext := ext_tr hext xG10
  have hLq9 := nw_Lq eG10
  have hKq9 := nw_Kq eG10
  refine lv_dup hx hb dX2_init_23 rfl ?_
  refine lv_aload_n hx hb dX2_init_24 rfl (lv_at hl 1 rfl) ?_
  refine r_callN (As := [.ref a1]) (rest := [.ref q9, .ref a0]) cx w ⟨Nat.le_of_ble_eq_true rfl, Nat.le_of_ble_eq_true rfl⟩ hl.1 (kn_X7_init (cX_wt cx) hLq9 hKq9 hLa1 hKa1 h) (cwI 1 hts gX2_init_X7_init rfl rfl rfl (hts _ (List.mem_of_getElem? (i := 9) rfl)) (hts _ (List.mem_of_getElem? (i := 16) rfl)) (hts _ (List.mem_of_getElem? (i := 17) rfl)) rfl (by decide +kernel) ⟨Nat.le_of_ble_eq_true rfl, Nat.le_of_ble_eq_true rfl⟩) rfl rfl (Nat.le_of_ble_eq_true rfl) dX2_init_25 (fun G12 M13 H locs h xG12 cx w => ?_)
  have hKa0 := ext_K xG12 hLa0 hKa0
  have hLa0 := ext_L xG12 hLa0
  have hKa1 := ext_K xG12 hLa1 hKa1
  have hLa1 := ext_L xG12 hLa1
  have hKa2 := ext_K xG12 hLa2 hKa2
  have hLa2 := ext_L xG12 hLa2
  have hKq1 := ext_K xG12 hLq1 hKq1
  have hLq1 := ext_L xG12 hLq1
  have hKq5 := ext_K xG12 hLq5 hKq5
  have hLq5 := ext_L xG12 hLq5
  have hKq9 := ext_K xG12 hLq9 hKq9
  have hLq9 := ext_L xG12 hLq9
  have hext := ext_tr hext xG12
  refine r_putRF (k := 0) cx w tyX2 tyX2_ok nmX2 hLa0 hKa0 (by decide) rfl wk_X2_init_X2 (by decide) rfl hini rfl (tyX2_ok 0 (by decide)) rfl rfl sr_1_0 (ln_1 _ _ (by decide)) hLq9 (by rw [hKq9]; rfl) (List.mem_of_getElem? (i := 10) rfl) dX2_init_28 (fun H locs w cx => ?_)
  obtain ⟨G14, eG14⟩ : ∃ z, z = gSt G12 a0 0 q9 := ⟨_, rfl⟩
  rw [← eG14] at w cx
  have h := h G14 eG14
  have xG14 := ext_st eG14
  have hKa0 := ext_K xG14 hLa0 hKa0
  have hLa0 := ext_L xG14 hLa0
  have hKa1 := ext_K xG14 hLa1 hKa1
  have hLa1 := ext_L xG14 hLa1
  have hKa2 := ext_K xG14 hLa2 hKa2
  have hLa2 := ext_L xG14 hLa2
  have hKq1 := ext_K xG14 hLq1 hKq1
  have hLq1 := ext_L xG14 hLq1
  have hKq5 := ext_K xG14 hLq5 hKq5
  have hLq5 := ext_L xG14 hLq5
  have hKq9 := ext_K xG14 hLq9 hKq9
  have hLq9 := ext_L xG14 hLq9
  have hext := ext_tr hext xG14
  refine lv_aload_n hx hb dX2_init_31 rfl (lv_at hl 0 rfl) ?_
  refine r_newO cx w tyX3 tyX3_ok rfl (by decide) wk_X2_init_X3 (List.mem_of_getElem? (i := 11) rfl) (List.mem_of_getElem? (i := 12) rfl) (List.mem_of_getElem? (i := 13) rfl) df_2 (Nat.le_of_ble_eq_true rfl) (Nat.le_of_ble_eq_true rfl) dX2_init_32 (fun q15 H nq15 w cx => ?_)
  obtain ⟨G16, eG16⟩ : ∃ z, z = gNw G14 q15 2 0 := ⟨_, rfl⟩
  obtain ⟨M17, eM17⟩ : ∃ z, z = wZ M13 q15 := ⟨_, rfl⟩
  rw [← eG16] at cx
  rw [← eG16, ← eM17] at w
  have h := h q15 nq15 G16 eG16 M17 eM17
  have xG16 := ext_nw eG16 nq15
  have hKa0 := ext_K xG16 hLa0 hKa0
  have hLa0 := ext_L xG16 hLa0
  have hKa1 := ext_K xG16 hLa1 hKa1
  have hLa1 := ext_L xG16 hLa1
  have hKa2 := ext_K xG16 hLa2 hKa2
  have hLa2 := ext_L xG16 hLa2
  have hKq1 := ext_K xG16 hLq1 hKq1
  have hLq1 := ext_L xG16 hLq1
  have hKq5 := ext_K xG16 hLq5 hKq5
  have hLq5 := ext_L xG16 hLq5
  have hKq9 := ext_K xG16 hLq9 hKq9
  have hLq9 := ext_L xG16 hLq9
  have hext := ext_tr hext xG16
  have hLq15 := nw_Lq eG16
  have hKq15 := nw_Kq eG16
  refine lv_dup hx hb dX2_init_35 rfl ?_
  refine r_callNN (As := []) (rest := [.ref q15, .ref a0]) cx w ⟨Nat.le_of_ble_eq_true rfl, Nat.le_of_ble_eq_true rfl⟩ hl.1 (kn_X3_init (cX_wt cx) hLq15 hKq15 h) ⟨va_cnB 0 hts gX2_init_X3_init_n31 rfl rfl rfl (nwM cx (q := (RX2, 31, yX3_init, "FlagAnts")) (List.mem_of_getElem? (i := 2) rfl)) (hts _ (List.mem_of_getElem? (i := 13) rfl)) (by decide +kernel) ⟨Nat.le_of_ble_eq_true rfl, Nat.le_of_ble_eq_true rfl⟩, rfl, hts _ (List.mem_of_getElem? (i := 86) rfl)⟩ rfl rfl (Nat.le_of_ble_eq_true rfl) dX2_init_36 (fun G18 M19 H locs h xG18 cx w => ?_)
  have hKa0 := ext_K xG18 hLa0 hKa0
  have hLa0 := ext_L xG18 hLa0
  have hKa1 := ext_K xG18 hLa1 hKa1
  have hLa1 := ext_L xG18 hLa1
  have hKa2 := ext_K xG18 hLa2 hKa2
  have hLa2 := ext_L xG18 hLa2
  have hKq1 := ext_K xG18 hLq1 hKq1
  have hLq1 := ext_L xG18 hLq1
  have hKq5 := ext_K xG18 hLq5 hKq5
  have hLq5 := ext_L xG18 hLq5
  have hKq9 := ext_K xG18 hLq9 hKq9
  have hLq9 := ext_L xG18 hLq9
  have hKq15 := ext_K xG18 hLq15 hKq15
  have hLq15 := ext_L xG18 hLq15
  have hext := ext_tr hext xG18
  refine r_putRF (k := 1) cx w tyX2 tyX2_ok nmX2 hLa0 hKa0 (by decide) rfl wk_X2_init_X2 (by decide) rfl hini rfl (tyX2_ok 1 (by decide)) rfl rfl sr_1_1 (ln_1 _ _ (by decide)) hLq15 (by rw [hKq15]; rfl) (List.mem_of_getElem? (i := 14) rfl) dX2_init_39 (fun H locs w cx => ?_)
  obtain ⟨G20, eG20⟩ : ∃ z, z = gSt G18 a0 1 q15 := ⟨_, rfl⟩
  rw [← eG20] at w cx
  have h := h G20 eG20
  have xG20 := ext_st eG20
  have hKa0 := ext_K xG20 hLa0 hKa0
  have hLa0 := ext_L xG20 hLa0
  have hKa1 := ext_K xG20 hLa1 hKa1
  have hLa1 := ext_L xG20 hLa1
  have hKa2 := ext_K xG20 hLa2 hKa2
  have hLa2 := ext_L xG20 hLa2
  have hKq1 := ext_K xG20 hLq1 hKq1
  have hLq1 := ext_L xG20 hLq1
  have hKq5 := ext_K xG20 hLq5 hKq5
  have hLq5 := ext_L xG20 hLq5
  have hKq9 := ext_K xG20 hLq9 hKq9
  have hLq9 := ext_L xG20 hLq9
  have hKq15 := ext_K xG20 hLq15 hKq15
  have hLq15 := ext_L xG20 hLq15
  have hext := ext_tr hext xG20
  refine lv_aload_n hx hb dX2_init_42 rfl (lv_at hl 0 rfl) ?_
  refine lv_aload_n hx hb dX2_init_43 rfl (lv_at hl 2 rfl) ?_
  refine r_putRF (k := 2) cx w tyX2 tyX2_ok nmX2 hLa0 hKa0 (by decide) rfl wk_X2_init_X2 (by decide) rfl hini rfl (tyX2_ok 2 (by decide)) rfl rfl sr_1_2 (ln_1 _ _ (by decide)) hLa2 (by rw [hKa2]; rfl) (List.mem_of_getElem? (i := 15) rfl) dX2_init_44 (fun H locs w cx => ?_)
  obtain ⟨G21, eG21⟩ : ∃ z, z = gSt G20 a0 2 a2 := ⟨_, rfl⟩
  rw [← eG21] at w cx
  have h := h G21 eG21
  have xG21 := ext_st eG21
  have hKa0 := ext_K xG21 hLa0 hKa0
  have hLa0 := ext_L xG21 hLa0
  have hKa1 := ext_K xG21 hLa1 hKa1
  have hLa1 := ext_L xG21 hLa1
  have hKa2 := ext_K xG21 hLa2 hKa2
  have hLa2 := ext_L xG21 hLa2
  have hKq1 := ext_K xG21 hLq1 hKq1
  have hLq1 := ext_L xG21 hLq1
  have hKq5 := ext_K xG21 hLq5 hKq5
  have hLq5 := ext_L xG21 hLq5
  have hKq9 := ext_K xG21 hLq9 hKq9
  have hLq9 := ext_L xG21 hLq9
  have hKq15 := ext_K xG21 hLq15 hKq15
  have hLq15 := ext_L xG21 hLq15
  have hext := ext_tr hext xG21
  exact r_vretN cx w h hext (Nat.le_of_ble_eq_true rfl) (Nat.le_of_ble_eq_true rfl) dX2_init_47
theorem wk_X9_init_X2 : ∀ w ∈ wsX20, w ∈ wsX9_init := by decide +kernel
theorem wk_X9_init_X3 : ∀ w ∈ wsX30, w ∈ wsX9_init := by decide +kernel
theorem wk_X9_init_X5 : ∀ w ∈ wsX50, w ∈ wsX9_init := by decide +kernel
theorem wk_X9_init_X6 : ∀ w ∈ wsX60, w ∈ wsX9_init := by decide +kernel
theorem wk_X9_init_X8 : ∀ w ∈ wsX80, w ∈ wsX9_init := by decide +kernel
theorem wk_X9_init_X9 : ∀ w ∈ wsX90, w ∈ wsX9_init := by decide +kernel
abbrev rnX9_init : Room := { frames := 7, cells := 65, slots := 19797, locals := 153 }
def n_X9_init (G : gS) (M : mS) (a0 : Nat) (post : gS → mS → Prop) : Prop := ∀ q1, q1 ∉ gL G → ∀ G2, G2 = gNw G q1 5 0 → ∀ M3, M3 = wZ M q1 → (n_X6_init G2 M3 q1 (fun G4 M5 => ∀ G6, G6 = gSt G4 a0 0 q1 → (∀ q7, q7 ∉ gL G6 → ∀ G8, G8 = gNw G6 q7 2 0 → ∀ M9, M9 = wZ M5 q7 → (n_X3_init G8 M9 q7 (fun G10 M11 => ∀ G12, G12 = gSt G10 a0 1 q7 → (∀ q13, q13 ∉ gL G12 → ∀ G14, G14 = gNw G12 q13 7 0 → ∀ M15, M15 = wZ M11 q13 → (n_X8_init G14 M15 q13 (fun G16 M17 => ∀ G18, G18 = gSt G16 a0 2 q13 → (∀ q19, q19 ∉ gL G18 → ∀ G20, G20 = gNw G18 q19 7 0 → ∀ M21, M21 = wZ M17 q19 → (n_X8_init G20 M21 q19 (fun G22 M23 => ∀ G24, G24 = gSt G22 a0 3 q19 → (∀ q25, q25 ∉ gL G24 → ∀ G26, G26 = gNw G24 q25 1 0 → ∀ M27, M27 = wZ M23 q25 → (∃ q28, gP G26 a0 0 = some q28 ∧ (∃ q29, gP G26 a0 3 = some q29 ∧ (n_X2_init G26 M27 q25 q28 q29 (fun G30 M31 => ∀ G32, G32 = gSt G30 a0 4 q25 → (∀ q33, q33 ∉ gL G32 → ∀ G34, G34 = gNw G32 q33 4 0 → ∀ M35, M35 = wZ M31 q33 → (∃ q36, gP G34 a0 1 = some q36 ∧ (n_X5_init G34 M35 q33 q36 (fun G37 M38 => ∀ G39, G39 = gSt G37 a0 5 q33 → (∀ M40, M40 = wI M38 a0 6 (-1 : Int32) → (post G39 M40))))))))))))))))))))))
set_option maxHeartbeats 4000000 in
set_option maxRecDepth 100000 in
theorem kn_X9_init {l : Launch} {D : va_G} {cy : cyS} {G : gS} {M : mS} {post : gS → mS → Prop} {a0 : Nat} (hG : wt G) (hLa0 : a0 ∈ gL G) (hKa0 : gK G a0 = 8) (h : n_X9_init G M a0 post) : ctN l yX9_init wsX9_init rnX9_init D cy G M [.ref a0] 65 19797 post := by
  unfold n_X9_init at h
  refine ctN_of (cc := cX9_init) (nL := 1) (lv := [(0, .ref a0)]) hG (by decide) rfl (Nat.le_of_ble_eq_true rfl) rfl ?_
  intro p e s m args below meth c sz ls hini cx w hl
  obtain ⟨hx, hb, hml, hown, hts, hr, hlocks, hK, hA, -, hsx⟩ := id cx
  have hini : meth.name = "<init>" := hini
  have hext := ext_rf (G := G)
  refine lv_aload_n hx hb dX9_init_0 rfl (lv_at hl 0 rfl) ?_
  refine W.objInit hx hb hown (hts (.methodLink RX9 3 objectInit) (List.mem_of_getElem? (i := 1) rfl)) (hts (.instanceMethod objectInit) (List.mem_of_getElem? (i := 2) rfl)) (hts _ (List.mem_of_getElem? (i := 3) rfl)) rfl (by rw [hml]; exact hl.1) rfl dX9_init_1 (Nat.le_of_ble_eq_true rfl) (Nat.le_of_ble_eq_true rfl) ?_
  refine W.eq (g2 := F0 m 4 ls []) rfl ?_
  refine lv_aload_n hx hb dX9_init_4 rfl (lv_at hl 0 rfl) ?_
  refine r_newO cx w tyX6 tyX6_ok rfl (by decide) wk_X9_init_X6 (List.mem_of_getElem? (i := 4) rfl) (List.mem_of_getElem? (i := 5) rfl) (List.mem_of_getElem? (i := 6) rfl) df_5 (Nat.le_of_ble_eq_true rfl) (Nat.le_of_ble_eq_true rfl) dX9_init_5 (fun q1 H nq1 w cx => ?_)
  obtain ⟨G2, eG2⟩ : ∃ z, z = gNw G q1 5 0 := ⟨_, rfl⟩
  obtain ⟨M3, eM3⟩ : ∃ z, z = wZ M q1 := ⟨_, rfl⟩
  rw [← eG2] at cx
  rw [← eG2, ← eM3] at w
  have h := h q1 nq1 G2 eG2 M3 eM3
  have xG2 := ext_nw eG2 nq1
  have hKa0 := ext_K xG2 hLa0 hKa0
  have hLa0 := ext_L xG2 hLa0
  have hext := ext_tr hext xG2
  have hLq1 := nw_Lq eG2
  have hKq1 := nw_Kq eG2
  refine lv_dup hx hb dX9_init_8 rfl ?_
  refine r_callNN (As := []) (rest := [.ref q1, .ref a0]) cx w ⟨Nat.le_of_ble_eq_true rfl, Nat.le_of_ble_eq_true rfl⟩ hl.1 (kn_X6_init (cX_wt cx) hLq1 hKq1 h) ⟨va_cnB 0 hts gX9_init_X6_init_n11 rfl rfl rfl (nwM cx (q := (RX9, 11, yX6_init, "FlagAnts")) (List.mem_of_getElem? (i := 0) rfl)) (hts _ (List.mem_of_getElem? (i := 6) rfl)) (by decide +kernel) ⟨Nat.le_of_ble_eq_true rfl, Nat.le_of_ble_eq_true rfl⟩, rfl, hts _ (List.mem_of_getElem? (i := 26) rfl)⟩ rfl rfl (Nat.le_of_ble_eq_true rfl) dX9_init_9 (fun G4 M5 H locs h xG4 cx w => ?_)
  have hKa0 := ext_K xG4 hLa0 hKa0
  have hLa0 := ext_L xG4 hLa0
  have hKq1 := ext_K xG4 hLq1 hKq1
  have hLq1 := ext_L xG4 hLq1
  have hext := ext_tr hext xG4
  refine r_putRF (k := 0) cx w tyX9 tyX9_ok nmX9 hLa0 hKa0 (by decide) rfl wk_X9_init_X9 (by decide) rfl hini rfl (tyX9_ok 0 (by decide)) rfl rfl sr_8_0 (ln_8 _ _ (by decide)) hLq1 (by rw [hKq1]; rfl) (List.mem_of_getElem? (i := 7) rfl) dX9_init_12 (fun H locs w cx => ?_)
  obtain ⟨G6, eG6⟩ : ∃ z, z = gSt G4 a0 0 q1 := ⟨_, rfl⟩
  rw [← eG6] at w cx
  have h := h G6 eG6
  have xG6 := ext_st eG6
  have hKa0 := ext_K xG6 hLa0 hKa0
  have hLa0 := ext_L xG6 hLa0
  have hKq1 := ext_K xG6 hLq1 hKq1
  have hLq1 := ext_L xG6 hLq1
  have hext := ext_tr hext xG6
  refine lv_aload_n hx hb dX9_init_15 rfl (lv_at hl 0 rfl) ?_
  refine r_newO cx w tyX3 tyX3_ok rfl (by decide) wk_X9_init_X3 (List.mem_of_getElem? (i := 8) rfl) (List.mem_of_getElem? (i := 9) rfl) (List.mem_of_getElem? (i := 10) rfl) df_2 (Nat.le_of_ble_eq_true rfl) (Nat.le_of_ble_eq_true rfl) dX9_init_16 (fun q7 H nq7 w cx => ?_)
  obtain ⟨G8, eG8⟩ : ∃ z, z = gNw G6 q7 2 0 := ⟨_, rfl⟩
  obtain ⟨M9, eM9⟩ : ∃ z, z = wZ M5 q7 := ⟨_, rfl⟩
  rw [← eG8] at cx
  rw [← eG8, ← eM9] at w
  have h := h q7 nq7 G8 eG8 M9 eM9
  have xG8 := ext_nw eG8 nq7
  have hKa0 := ext_K xG8 hLa0 hKa0
  have hLa0 := ext_L xG8 hLa0
  have hKq1 := ext_K xG8 hLq1 hKq1
  have hLq1 := ext_L xG8 hLq1
  have hext := ext_tr hext xG8
  have hLq7 := nw_Lq eG8
  have hKq7 := nw_Kq eG8
  refine lv_dup hx hb dX9_init_19 rfl ?_
  refine r_callNN (As := []) (rest := [.ref q7, .ref a0]) cx w ⟨Nat.le_of_ble_eq_true rfl, Nat.le_of_ble_eq_true rfl⟩ hl.1 (kn_X3_init (cX_wt cx) hLq7 hKq7 h) ⟨va_cnB 0 hts gX9_init_X3_init_n18 rfl rfl rfl (nwM cx (q := (RX9, 18, yX3_init, "FlagAnts")) (List.mem_of_getElem? (i := 1) rfl)) (hts _ (List.mem_of_getElem? (i := 10) rfl)) (by decide +kernel) ⟨Nat.le_of_ble_eq_true rfl, Nat.le_of_ble_eq_true rfl⟩, rfl, hts _ (List.mem_of_getElem? (i := 31) rfl)⟩ rfl rfl (Nat.le_of_ble_eq_true rfl) dX9_init_20 (fun G10 M11 H locs h xG10 cx w => ?_)
  have hKa0 := ext_K xG10 hLa0 hKa0
  have hLa0 := ext_L xG10 hLa0
  have hKq1 := ext_K xG10 hLq1 hKq1
  have hLq1 := ext_L xG10 hLq1
  have hKq7 := ext_K xG10 hLq7 hKq7
  have hLq7 := ext_L xG10 hLq7
  have hext := ext_tr hext xG10
  refine r_putRF (k := 1) cx w tyX9 tyX9_ok nmX9 hLa0 hKa0 (by decide) rfl wk_X9_init_X9 (by decide) rfl hini rfl (tyX9_ok 1 (by decide)) rfl rfl sr_8_1 (ln_8 _ _ (by decide)) hLq7 (by rw [hKq7]; rfl) (List.mem_of_getElem? (i := 11) rfl) dX9_init_23 (fun H locs w cx => ?_)
  obtain ⟨G12, eG12⟩ : ∃ z, z = gSt G10 a0 1 q7 := ⟨_, rfl⟩
  rw [← eG12] at w cx
  have h := h G12 eG12
  have xG12 := ext_st eG12
  have hKa0 := ext_K xG12 hLa0 hKa0
  have hLa0 := ext_L xG12 hLa0
  have hKq1 := ext_K xG12 hLq1 hKq1
  have hLq1 := ext_L xG12 hLq1
  have hKq7 := ext_K xG12 hLq7 hKq7
  have hLq7 := ext_L xG12 hLq7
  have hext := ext_tr hext xG12
  refine lv_aload_n hx hb dX9_init_26 rfl (lv_at hl 0 rfl) ?_
  refine r_newO cx w tyX8 tyX8_ok rfl (by decide) wk_X9_init_X8 (List.mem_of_getElem? (i := 12) rfl) (List.mem_of_getElem? (i := 13) rfl) (List.mem_of_getElem? (i := 14) rfl) df_7 (Nat.le_of_ble_eq_true rfl) (Nat.le_of_ble_eq_true rfl) dX9_init_27 (fun q13 H nq13 w cx => ?_)
  obtain ⟨G14, eG14⟩ : ∃ z, z = gNw G12 q13 7 0 := ⟨_, rfl⟩
  obtain ⟨M15, eM15⟩ : ∃ z, z = wZ M11 q13 := ⟨_, rfl⟩
  rw [← eG14] at cx
  rw [← eG14, ← eM15] at w
  have h := h q13 nq13 G14 eG14 M15 eM15
  have xG14 := ext_nw eG14 nq13
  have hKa0 := ext_K xG14 hLa0 hKa0
  have hLa0 := ext_L xG14 hLa0
  have hKq1 := ext_K xG14 hLq1 hKq1
  have hLq1 := ext_L xG14 hLq1
  have hKq7 := ext_K xG14 hLq7 hKq7
  have hLq7 := ext_L xG14 hLq7
  have hext := ext_tr hext xG14
  have hLq13 := nw_Lq eG14
  have hKq13 := nw_Kq eG14
  refine lv_dup hx hb dX9_init_30 rfl ?_
  refine r_callN (As := []) (rest := [.ref q13, .ref a0]) cx w ⟨Nat.le_of_ble_eq_true rfl, Nat.le_of_ble_eq_true rfl⟩ hl.1 (kn_X8_init (cX_wt cx) hLq13 hKq13 h) (cwI 0 hts gX9_init_X8_init rfl rfl rfl (hts _ (List.mem_of_getElem? (i := 14) rfl)) (hts _ (List.mem_of_getElem? (i := 42) rfl)) (hts _ (List.mem_of_getElem? (i := 43) rfl)) rfl (by decide +kernel) ⟨Nat.le_of_ble_eq_true rfl, Nat.le_of_ble_eq_true rfl⟩) rfl rfl (Nat.le_of_ble_eq_true rfl) dX9_init_31 (fun G16 M17 H locs h xG16 cx w => ?_)
  have hKa0 := ext_K xG16 hLa0 hKa0
  have hLa0 := ext_L xG16 hLa0
  have hKq1 := ext_K xG16 hLq1 hKq1
  have hLq1 := ext_L xG16 hLq1
  have hKq7 := ext_K xG16 hLq7 hKq7
  have hLq7 := ext_L xG16 hLq7
  have hKq13 := ext_K xG16 hLq13 hKq13
  have hLq13 := ext_L xG16 hLq13
  have hext := ext_tr hext xG16
  refine r_putRF (k := 2) cx w tyX9 tyX9_ok nmX9 hLa0 hKa0 (by decide) rfl wk_X9_init_X9 (by decide) rfl hini rfl (tyX9_ok 2 (by decide)) rfl rfl sr_8_2 (ln_8 _ _ (by decide)) hLq13 (by rw [hKq13]; rfl) (List.mem_of_getElem? (i := 15) rfl) dX9_init_34 (fun H locs w cx => ?_)
  obtain ⟨G18, eG18⟩ : ∃ z, z = gSt G16 a0 2 q13 := ⟨_, rfl⟩
  rw [← eG18] at w cx
  have h := h G18 eG18
  have xG18 := ext_st eG18
  have hKa0 := ext_K xG18 hLa0 hKa0
  have hLa0 := ext_L xG18 hLa0
  have hKq1 := ext_K xG18 hLq1 hKq1
  have hLq1 := ext_L xG18 hLq1
  have hKq7 := ext_K xG18 hLq7 hKq7
  have hLq7 := ext_L xG18 hLq7
  have hKq13 := ext_K xG18 hLq13 hKq13
  have hLq13 := ext_L xG18 hLq13
  have hext := ext_tr hext xG18
  refine lv_aload_n hx hb dX9_init_37 rfl (lv_at hl 0 rfl) ?_
  refine r_newO cx w tyX8 tyX8_ok rfl (by decide) wk_X9_init_X8 (List.mem_of_getElem? (i := 12) rfl) (List.mem_of_getElem? (i := 13) rfl) (List.mem_of_getElem? (i := 14) rfl) df_7 (Nat.le_of_ble_eq_true rfl) (Nat.le_of_ble_eq_true rfl) dX9_init_38 (fun q19 H nq19 w cx => ?_)
  obtain ⟨G20, eG20⟩ : ∃ z, z = gNw G18 q19 7 0 := ⟨_, rfl⟩
  obtain ⟨M21, eM21⟩ : ∃ z, z = wZ M17 q19 := ⟨_, rfl⟩
  rw [← eG20] at cx
  rw [← eG20, ← eM21] at w
  have h := h q19 nq19 G20 eG20 M21 eM21
  have xG20 := ext_nw eG20 nq19
  have hKa0 := ext_K xG20 hLa0 hKa0
  have hLa0 := ext_L xG20 hLa0
  have hKq1 := ext_K xG20 hLq1 hKq1
  have hLq1 := ext_L xG20 hLq1
  have hKq7 := ext_K xG20 hLq7 hKq7
  have hLq7 := ext_L xG20 hLq7
  have hKq13 := ext_K xG20 hLq13 hKq13
  have hLq13 := ext_L xG20 hLq13
  have hext := ext_tr hext xG20
  have hLq19 := nw_Lq eG20
  have hKq19 := nw_Kq eG20
  refine lv_dup hx hb dX9_init_41 rfl ?_
  refine r_callN (As := []) (rest := [.ref q19, .ref a0]) cx w ⟨Nat.le_of_ble_eq_true rfl, Nat.le_of_ble_eq_true rfl⟩ hl.1 (kn_X8_init (cX_wt cx) hLq19 hKq19 h) (cwI 0 hts gX9_init_X8_init rfl rfl rfl (hts _ (List.mem_of_getElem? (i := 14) rfl)) (hts _ (List.mem_of_getElem? (i := 42) rfl)) (hts _ (List.mem_of_getElem? (i := 43) rfl)) rfl (by decide +kernel) ⟨Nat.le_of_ble_eq_true rfl, Nat.le_of_ble_eq_true rfl⟩) rfl rfl (Nat.le_of_ble_eq_true rfl) dX9_init_42 (fun G22 M23 H locs h xG22 cx w => ?_)
  have hKa0 := ext_K xG22 hLa0 hKa0
  have hLa0 := ext_L xG22 hLa0
  have hKq1 := ext_K xG22 hLq1 hKq1
  have hLq1 := ext_L xG22 hLq1
  have hKq7 := ext_K xG22 hLq7 hKq7
  have hLq7 := ext_L xG22 hLq7
  have hKq13 := ext_K xG22 hLq13 hKq13
  have hLq13 := ext_L xG22 hLq13
  have hKq19 := ext_K xG22 hLq19 hKq19
  have hLq19 := ext_L xG22 hLq19
  have hext := ext_tr hext xG22
  refine r_putRF (k := 3) cx w tyX9 tyX9_ok nmX9 hLa0 hKa0 (by decide) rfl wk_X9_init_X9 (by decide) rfl hini rfl (tyX9_ok 3 (by decide)) rfl rfl sr_8_3 (ln_8 _ _ (by decide)) hLq19 (by rw [hKq19]; rfl) (List.mem_of_getElem? (i := 16) rfl) dX9_init_45 (fun H locs w cx => ?_)
  obtain ⟨G24, eG24⟩ : ∃ z, z = gSt G22 a0 3 q19 := ⟨_, rfl⟩
  rw [← eG24] at w cx
  have h := h G24 eG24
  have xG24 := ext_st eG24
  have hKa0 := ext_K xG24 hLa0 hKa0
  have hLa0 := ext_L xG24 hLa0
  have hKq1 := ext_K xG24 hLq1 hKq1
  have hLq1 := ext_L xG24 hLq1
  have hKq7 := ext_K xG24 hLq7 hKq7
  have hLq7 := ext_L xG24 hLq7
  have hKq13 := ext_K xG24 hLq13 hKq13
  have hLq13 := ext_L xG24 hLq13
  have hKq19 := ext_K xG24 hLq19 hKq19
  have hLq19 := ext_L xG24 hLq19
  have hext := ext_tr hext xG24
  refine lv_aload_n hx hb dX9_init_48 rfl (lv_at hl 0 rfl) ?_
  refine r_newO cx w tyX2 tyX2_ok rfl (by decide) wk_X9_init_X2 (List.mem_of_getElem? (i := 17) rfl) (List.mem_of_getElem? (i := 18) rfl) (List.mem_of_getElem? (i := 19) rfl) df_1 (Nat.le_of_ble_eq_true rfl) (Nat.le_of_ble_eq_true rfl) dX9_init_49 (fun q25 H nq25 w cx => ?_)
  obtain ⟨G26, eG26⟩ : ∃ z, z = gNw G24 q25 1 0 := ⟨_, rfl⟩
  obtain ⟨M27, eM27⟩ : ∃ z, z = wZ M23 q25 := ⟨_, rfl⟩
  rw [← eG26] at cx
  rw [← eG26, ← eM27] at w
  have h := h q25 nq25 G26 eG26 M27 eM27
  have xG26 := ext_nw eG26 nq25
  have hKa0 := ext_K xG26 hLa0 hKa0
  have hLa0 := ext_L xG26 hLa0
  have hKq1 := ext_K xG26 hLq1 hKq1
  have hLq1 := ext_L xG26 hLq1
  have hKq7 := ext_K xG26 hLq7 hKq7
  have hLq7 := ext_L xG26 hLq7
  have hKq13 := ext_K xG26 hLq13 hKq13
  have hLq13 := ext_L xG26 hLq13
  have hKq19 := ext_K xG26 hLq19 hKq19
  have hLq19 := ext_L xG26 hLq19
  have hext := ext_tr hext xG26
  have hLq25 := nw_Lq eG26
  have hKq25 := nw_Kq eG26
  refine lv_dup hx hb dX9_init_52 rfl ?_
  refine lv_aload_n hx hb dX9_init_53 rfl (lv_at hl 0 rfl) ?_
  obtain ⟨q28, eq28, h⟩ := h
  obtain ⟨hLq28, hKq28⟩ := wt_q (cX_wt cx) hLa0 hKa0 eq28
  have hKq28 : gK G26 q28 = 5 := hKq28
  refine r_getR (k := 0) cx w hLa0 hKa0 (by decide) rfl wk_X9_init_X9 (by decide) rfl eq28 (List.mem_of_getElem? (i := 7) rfl) dX9_init_54 ?_
  refine lv_aload_n hx hb dX9_init_57 rfl (lv_at hl 0 rfl) ?_
  obtain ⟨q29, eq29, h⟩ := h
  obtain ⟨hLq29, hKq29⟩ := wt_q (cX_wt cx) hLa0 hKa0 eq29
  have hKq29 : gK G26 q29 = 7 := hKq29
  refine r_getR (k := 3) cx w hLa0 hKa0 (by decide) rfl wk_X9_init_X9 (by decide) rfl eq29 (List.mem_of_getElem? (i := 16) rfl) dX9_init_58 ?_
  refine r_callN (As := [.ref q28, .ref q29]) (rest := [.ref q25, .ref a0]) cx w ⟨Nat.le_of_ble_eq_true rfl, Nat.le_of_ble_eq_true rfl⟩ hl.1 (kn_X2_init (cX_wt cx) hLq25 hKq25 hLq28 hKq28 hLq29 hKq29 h) (cwI 2 hts gX9_init_X2_init rfl rfl rfl (hts _ (List.mem_of_getElem? (i := 19) rfl)) (hts _ (List.mem_of_getElem? (i := 57) rfl)) (hts _ (List.mem_of_getElem? (i := 58) rfl)) rfl (by decide +kernel) ⟨Nat.le_of_ble_eq_true rfl, Nat.le_of_ble_eq_true rfl⟩) rfl rfl (Nat.le_of_ble_eq_true rfl) dX9_init_61 (fun G30 M31 H locs h xG30 cx w => ?_)
  have hKa0 := ext_K xG30 hLa0 hKa0
  have hLa0 := ext_L xG30 hLa0
  have hKq1 := ext_K xG30 hLq1 hKq1
  have hLq1 := ext_L xG30 hLq1
  have hKq7 := ext_K xG30 hLq7 hKq7
  have hLq7 := ext_L xG30 hLq7
  have hKq13 := ext_K xG30 hLq13 hKq13
  have hLq13 := ext_L xG30 hLq13
  have hKq19 := ext_K xG30 hLq19 hKq19
  have hLq19 := ext_L xG30 hLq19
  have hKq25 := ext_K xG30 hLq25 hKq25
  have hLq25 := ext_L xG30 hLq25
  have hKq28 := ext_K xG30 hLq28 hKq28
  have hLq28 := ext_L xG30 hLq28
  have hKq29 := ext_K xG30 hLq29 hKq29
  have hLq29 := ext_L xG30 hLq29
  have hext := ext_tr hext xG30
  refine r_putRF (k := 4) cx w tyX9 tyX9_ok nmX9 hLa0 hKa0 (by decide) rfl wk_X9_init_X9 (by decide) rfl hini rfl (tyX9_ok 4 (by decide)) rfl rfl sr_8_4 (ln_8 _ _ (by decide)) hLq25 (by rw [hKq25]; rfl) (List.mem_of_getElem? (i := 20) rfl) dX9_init_64 (fun H locs w cx => ?_)
  obtain ⟨G32, eG32⟩ : ∃ z, z = gSt G30 a0 4 q25 := ⟨_, rfl⟩
  rw [← eG32] at w cx
  have h := h G32 eG32
  have xG32 := ext_st eG32
  have hKa0 := ext_K xG32 hLa0 hKa0
  have hLa0 := ext_L xG32 hLa0
  have hKq1 := ext_K xG32 hLq1 hKq1
  have hLq1 := ext_L xG32 hLq1
  have hKq7 := ext_K xG32 hLq7 hKq7
  have hLq7 := ext_L xG32 hLq7
  have hKq13 := ext_K xG32 hLq13 hKq13
  have hLq13 := ext_L xG32 hLq13
  have hKq19 := ext_K xG32 hLq19 hKq19
  have hLq19 := ext_L xG32 hLq19
  have hKq25 := ext_K xG32 hLq25 hKq25
  have hLq25 := ext_L xG32 hLq25
  have hKq28 := ext_K xG32 hLq28 hKq28
  have hLq28 := ext_L xG32 hLq28
  have hKq29 := ext_K xG32 hLq29 hKq29
  have hLq29 := ext_L xG32 hLq29
  have hext := ext_tr hext xG32
  refine lv_aload_n hx hb dX9_init_67 rfl (lv_at hl 0 rfl) ?_
  refine r_newO cx w tyX5 tyX5_ok rfl (by decide) wk_X9_init_X5 (List.mem_of_getElem? (i := 21) rfl) (List.mem_of_getElem? (i := 22) rfl) (List.mem_of_getElem? (i := 23) rfl) df_4 (Nat.le_of_ble_eq_true rfl) (Nat.le_of_ble_eq_true rfl) dX9_init_68 (fun q33 H nq33 w cx => ?_)
  obtain ⟨G34, eG34⟩ : ∃ z, z = gNw G32 q33 4 0 := ⟨_, rfl⟩
  obtain ⟨M35, eM35⟩ : ∃ z, z = wZ M31 q33 := ⟨_, rfl⟩
  rw [← eG34] at cx
  rw [← eG34, ← eM35] at w
  have h := h q33 nq33 G34 eG34 M35 eM35
  have xG34 := ext_nw eG34 nq33
  have hKa0 := ext_K xG34 hLa0 hKa0
  have hLa0 := ext_L xG34 hLa0
  have hKq1 := ext_K xG34 hLq1 hKq1
  have hLq1 := ext_L xG34 hLq1
  have hKq7 := ext_K xG34 hLq7 hKq7
  have hLq7 := ext_L xG34 hLq7
  have hKq13 := ext_K xG34 hLq13 hKq13
  have hLq13 := ext_L xG34 hLq13
  have hKq19 := ext_K xG34 hLq19 hKq19
  have hLq19 := ext_L xG34 hLq19
  have hKq25 := ext_K xG34 hLq25 hKq25
  have hLq25 := ext_L xG34 hLq25
  have hKq28 := ext_K xG34 hLq28 hKq28
  have hLq28 := ext_L xG34 hLq28
  have hKq29 := ext_K xG34 hLq29 hKq29
  have hLq29 := ext_L xG34 hLq29
  have hext := ext_tr hext xG34
  have hLq33 := nw_Lq eG34
  have hKq33 := nw_Kq eG34
  refine lv_dup hx hb dX9_init_71 rfl ?_
  refine lv_aload_n hx hb dX9_init_72 rfl (lv_at hl 0 rfl) ?_
  obtain ⟨q36, eq36, h⟩ := h
  obtain ⟨hLq36, hKq36⟩ := wt_q (cX_wt cx) hLa0 hKa0 eq36
  have hKq36 : gK G34 q36 = 2 := hKq36
  refine r_getR (k := 1) cx w hLa0 hKa0 (by decide) rfl wk_X9_init_X9 (by decide) rfl eq36 (List.mem_of_getElem? (i := 11) rfl) dX9_init_73 ?_
  refine r_callN (As := [.ref q36]) (rest := [.ref q33, .ref a0]) cx w ⟨Nat.le_of_ble_eq_true rfl, Nat.le_of_ble_eq_true rfl⟩ hl.1 (kn_X5_init (cX_wt cx) hLq33 hKq33 hLq36 hKq36 h) (cwI 1 hts gX9_init_X5_init rfl rfl rfl (hts _ (List.mem_of_getElem? (i := 23) rfl)) (hts _ (List.mem_of_getElem? (i := 140) rfl)) (hts _ (List.mem_of_getElem? (i := 141) rfl)) rfl (by decide +kernel) ⟨Nat.le_of_ble_eq_true rfl, Nat.le_of_ble_eq_true rfl⟩) rfl rfl (Nat.le_of_ble_eq_true rfl) dX9_init_76 (fun G37 M38 H locs h xG37 cx w => ?_)
  have hKa0 := ext_K xG37 hLa0 hKa0
  have hLa0 := ext_L xG37 hLa0
  have hKq1 := ext_K xG37 hLq1 hKq1
  have hLq1 := ext_L xG37 hLq1
  have hKq7 := ext_K xG37 hLq7 hKq7
  have hLq7 := ext_L xG37 hLq7
  have hKq13 := ext_K xG37 hLq13 hKq13
  have hLq13 := ext_L xG37 hLq13
  have hKq19 := ext_K xG37 hLq19 hKq19
  have hLq19 := ext_L xG37 hLq19
  have hKq25 := ext_K xG37 hLq25 hKq25
  have hLq25 := ext_L xG37 hLq25
  have hKq28 := ext_K xG37 hLq28 hKq28
  have hLq28 := ext_L xG37 hLq28
  have hKq29 := ext_K xG37 hLq29 hKq29
  have hLq29 := ext_L xG37 hLq29
  have hKq33 := ext_K xG37 hLq33 hKq33
  have hLq33 := ext_L xG37 hLq33
  have hKq36 := ext_K xG37 hLq36 hKq36
  have hLq36 := ext_L xG37 hLq36
  have hext := ext_tr hext xG37
  refine r_putRF (k := 5) cx w tyX9 tyX9_ok nmX9 hLa0 hKa0 (by decide) rfl wk_X9_init_X9 (by decide) rfl hini rfl (tyX9_ok 5 (by decide)) rfl rfl sr_8_5 (ln_8 _ _ (by decide)) hLq33 (by rw [hKq33]; rfl) (List.mem_of_getElem? (i := 24) rfl) dX9_init_79 (fun H locs w cx => ?_)
  obtain ⟨G39, eG39⟩ : ∃ z, z = gSt G37 a0 5 q33 := ⟨_, rfl⟩
  rw [← eG39] at w cx
  have h := h G39 eG39
  have xG39 := ext_st eG39
  have hKa0 := ext_K xG39 hLa0 hKa0
  have hLa0 := ext_L xG39 hLa0
  have hKq1 := ext_K xG39 hLq1 hKq1
  have hLq1 := ext_L xG39 hLq1
  have hKq7 := ext_K xG39 hLq7 hKq7
  have hLq7 := ext_L xG39 hLq7
  have hKq13 := ext_K xG39 hLq13 hKq13
  have hLq13 := ext_L xG39 hLq13
  have hKq19 := ext_K xG39 hLq19 hKq19
  have hLq19 := ext_L xG39 hLq19
  have hKq25 := ext_K xG39 hLq25 hKq25
  have hLq25 := ext_L xG39 hLq25
  have hKq28 := ext_K xG39 hLq28 hKq28
  have hLq28 := ext_L xG39 hLq28
  have hKq29 := ext_K xG39 hLq29 hKq29
  have hLq29 := ext_L xG39 hLq29
  have hKq33 := ext_K xG39 hLq33 hKq33
  have hLq33 := ext_L xG39 hLq33
  have hKq36 := ext_K xG39 hLq36 hKq36
  have hLq36 := ext_L xG39 hLq36
  have hext := ext_tr hext xG39
  refine lv_aload_n hx hb dX9_init_82 rfl (lv_at hl 0 rfl) ?_
  refine lv_iconst (v := (-1 : Int32)) hx hb dX9_init_83 (by decide) ?_
  obtain ⟨M40, eM40⟩ : ∃ z, z = wI M38 a0 6 (-1 : Int32) := ⟨_, rfl⟩
  have h := h M40 eM40
  refine r_putI (k := 6) (ty := .int) cx w tyX9 tyX9_ok nmX9 hLa0 hKa0 (by decide) rfl wk_X9_init_X9 (by decide) rfl rfl rfl rfl st_8_6 (ln_8 _ _ (by decide)) (List.mem_of_getElem? (i := 25) rfl) dX9_init_84 eM40 (fun H locs w => ?_)
  exact r_vretN cx w h hext (Nat.le_of_ble_eq_true rfl) (Nat.le_of_ble_eq_true rfl) dX9_init_87
theorem wk_X10_init_X10 : ∀ w ∈ wsX100, w ∈ wsX10_init := by decide +kernel
abbrev rnX10_init : Room := { frames := 1, cells := 15, slots := 5460, locals := 60 }
def n_X10_init (G : gS) (M : mS) (a0 : Nat) (post : gS → mS → Prop) : Prop := ∀ q1, q1 ∉ gL G → ∀ G2, G2 = gNw G q1 12 5 → ∀ M3, M3 = wZ M q1 → (∀ G4, G4 = gSt G2 a0 1 q1 → (∀ q5, q5 ∉ gL G4 → ∀ G6, G6 = gNw G4 q5 12 30 → ∀ M7, M7 = wZ M3 q5 → (∀ G8, G8 = gSt G6 a0 2 q5 → (∀ q9, q9 ∉ gL G8 → ∀ G10, G10 = gNw G8 q9 12 3 → ∀ M11, M11 = wZ M7 q9 → (∀ G12, G12 = gSt G10 a0 5 q9 → (∀ q13, q13 ∉ gL G12 → ∀ G14, G14 = gNw G12 q13 12 6 → ∀ M15, M15 = wZ M11 q13 → (∀ G16, G16 = gSt G14 a0 6 q13 → (∀ q17, q17 ∉ gL G16 → ∀ G18, G18 = gNw G16 q17 12 6 → ∀ M19, M19 = wZ M15 q17 → (∀ G20, G20 = gSt G18 a0 7 q17 → (∀ q21, q21 ∉ gL G20 → ∀ G22, G22 = gNw G20 q21 12 6 → ∀ M23, M23 = wZ M19 q21 → (∀ G24, G24 = gSt G22 a0 8 q21 → (∀ q25, q25 ∉ gL G24 → ∀ G26, G26 = gNw G24 q25 12 6 → ∀ M27, M27 = wZ M23 q25 → (∀ G28, G28 = gSt G26 a0 9 q25 → (∀ q29, q29 ∉ gL G28 → ∀ G30, G30 = gNw G28 q29 12 4096 → ∀ M31, M31 = wZ M27 q29 → (∀ G32, G32 = gSt G30 a0 10 q29 → (∀ q33, q33 ∉ gL G32 → ∀ G34, G34 = gNw G32 q33 12 20 → ∀ M35, M35 = wZ M31 q33 → (∀ G36, G36 = gSt G34 a0 13 q33 → (∀ q37, q37 ∉ gL G36 → ∀ G38, G38 = gNw G36 q37 12 20 → ∀ M39, M39 = wZ M35 q37 → (∀ G40, G40 = gSt G38 a0 14 q37 → (∀ q41, q41 ∉ gL G40 → ∀ G42, G42 = gNw G40 q41 12 20 → ∀ M43, M43 = wZ M39 q41 → (∀ G44, G44 = gSt G42 a0 15 q41 → (∀ q45, q45 ∉ gL G44 → ∀ G46, G46 = gNw G44 q45 12 21 → ∀ M47, M47 = wZ M43 q45 → (∀ G48, G48 = gSt G46 a0 16 q45 → (∀ q49, q49 ∉ gL G48 → ∀ G50, G50 = gNw G48 q49 12 21 → ∀ M51, M51 = wZ M47 q49 → (∀ G52, G52 = gSt G50 a0 17 q49 → (∀ q53, q53 ∉ gL G52 → ∀ G54, G54 = gNw G52 q53 12 800 → ∀ M55, M55 = wZ M51 q53 → (∀ G56, G56 = gSt G54 a0 18 q53 → (∀ q57, q57 ∉ gL G56 → ∀ G58, G58 = gNw G56 q57 12 400 → ∀ M59, M59 = wZ M55 q57 → (∀ G60, G60 = gSt G58 a0 20 q57 → (post G60 M59))))))))))))))))))))))))))))))
set_option maxHeartbeats 4000000 in
set_option maxRecDepth 100000 in
theorem kn_X10_init {l : Launch} {D : va_G} {cy : cyS} {G : gS} {M : mS} {post : gS → mS → Prop} {a0 : Nat} (hG : wt G) (hLa0 : a0 ∈ gL G) (hKa0 : gK G a0 = 9) (h : n_X10_init G M a0 post) : ctN l yX10_init wsX10_init rnX10_init D cy G M [.ref a0] 15 5460 post := by
  unfold n_X10_init at h
  refine ctN_of (cc := cX10_init) (nL := 1) (lv := [(0, .ref a0)]) hG (by decide) rfl (Nat.le_of_ble_eq_true rfl) rfl ?_
  intro p e s m args below meth c sz ls hini cx w hl
  obtain ⟨hx, hb, hml, hown, hts, hr, hlocks, hK, hA, -, hsx⟩ := id cx
  have hini : meth.name = "<init>" := hini
  have hext := ext_rf (G := G)
  refine lv_aload_n hx hb dX10_init_0 rfl (lv_at hl 0 rfl) ?_
  refine W.objInit hx hb hown (hts (.methodLink RX10 3 objectInit) (List.mem_of_getElem? (i := 1) rfl)) (hts (.instanceMethod objectInit) (List.mem_of_getElem? (i := 2) rfl)) (hts _ (List.mem_of_getElem? (i := 3) rfl)) rfl (by rw [hml]; exact hl.1) rfl dX10_init_1 (Nat.le_of_ble_eq_true rfl) (Nat.le_of_ble_eq_true rfl) ?_
  refine W.eq (g2 := F0 m 4 ls []) rfl ?_
  refine lv_aload_n hx hb dX10_init_4 rfl (lv_at hl 0 rfl) ?_
  refine lv_iconst (v := (5 : Int32)) hx hb dX10_init_5 (by decide) ?_
  refine r_newI (N := 5) cx w (List.mem_of_getElem? (i := 4) rfl) (by decide) (by decide) (Nat.le_of_ble_eq_true rfl) (Nat.le_of_ble_eq_true rfl) (Nat.le_of_ble_eq_true rfl) dX10_init_6 (fun q1 H nq1 w cx => ?_)
  obtain ⟨G2, eG2⟩ : ∃ z, z = gNw G q1 12 5 := ⟨_, rfl⟩
  obtain ⟨M3, eM3⟩ : ∃ z, z = wZ M q1 := ⟨_, rfl⟩
  rw [← eG2] at cx
  rw [← eG2, ← eM3] at w
  have h := h q1 nq1 G2 eG2 M3 eM3
  have xG2 := ext_nw eG2 nq1
  have hKa0 := ext_K xG2 hLa0 hKa0
  have hLa0 := ext_L xG2 hLa0
  have hext := ext_tr hext xG2
  have hLq1 := nw_Lq eG2
  have hKq1 := nw_Kq eG2
  refine r_putRF (k := 1) cx w tyX10 tyX10_ok nmX10 hLa0 hKa0 (by decide) rfl wk_X10_init_X10 (by decide) rfl hini rfl (tyX10_ok 1 (by decide)) rfl rfl sr_9_1 (ln_9 _ _ (by decide)) hLq1 (by rw [hKq1]; rfl) (List.mem_of_getElem? (i := 5) rfl) dX10_init_8 (fun H locs w cx => ?_)
  obtain ⟨G4, eG4⟩ : ∃ z, z = gSt G2 a0 1 q1 := ⟨_, rfl⟩
  rw [← eG4] at w cx
  have h := h G4 eG4
  have xG4 := ext_st eG4
  have hKa0 := ext_K xG4 hLa0 hKa0
  have hLa0 := ext_L xG4 hLa0
  have hKq1 := ext_K xG4 hLq1 hKq1
  have hLq1 := ext_L xG4 hLq1
  have hext := ext_tr hext xG4
  refine lv_aload_n hx hb dX10_init_11 rfl (lv_at hl 0 rfl) ?_
  refine lv_bipush (v := (30 : Int32)) hx hb dX10_init_12 (by decide) ?_
  refine r_newI (N := 30) cx w (List.mem_of_getElem? (i := 4) rfl) (by decide) (by decide) (Nat.le_of_ble_eq_true rfl) (Nat.le_of_ble_eq_true rfl) (Nat.le_of_ble_eq_true rfl) dX10_init_14 (fun q5 H nq5 w cx => ?_)
  obtain ⟨G6, eG6⟩ : ∃ z, z = gNw G4 q5 12 30 := ⟨_, rfl⟩
  obtain ⟨M7, eM7⟩ : ∃ z, z = wZ M3 q5 := ⟨_, rfl⟩
  rw [← eG6] at cx
  rw [← eG6, ← eM7] at w
  have h := h q5 nq5 G6 eG6 M7 eM7
  have xG6 := ext_nw eG6 nq5
  have hKa0 := ext_K xG6 hLa0 hKa0
  have hLa0 := ext_L xG6 hLa0
  have hKq1 := ext_K xG6 hLq1 hKq1
  have hLq1 := ext_L xG6 hLq1
  have hext := ext_tr hext xG6
  have hLq5 := nw_Lq eG6
  have hKq5 := nw_Kq eG6
  refine r_putRF (k := 2) cx w tyX10 tyX10_ok nmX10 hLa0 hKa0 (by decide) rfl wk_X10_init_X10 (by decide) rfl hini rfl (tyX10_ok 2 (by decide)) rfl rfl sr_9_2 (ln_9 _ _ (by decide)) hLq5 (by rw [hKq5]; rfl) (List.mem_of_getElem? (i := 6) rfl) dX10_init_16 (fun H locs w cx => ?_)
  obtain ⟨G8, eG8⟩ : ∃ z, z = gSt G6 a0 2 q5 := ⟨_, rfl⟩
  rw [← eG8] at w cx
  have h := h G8 eG8
  have xG8 := ext_st eG8
  have hKa0 := ext_K xG8 hLa0 hKa0
  have hLa0 := ext_L xG8 hLa0
  have hKq1 := ext_K xG8 hLq1 hKq1
  have hLq1 := ext_L xG8 hLq1
  have hKq5 := ext_K xG8 hLq5 hKq5
  have hLq5 := ext_L xG8 hLq5
  have hext := ext_tr hext xG8
  refine lv_aload_n hx hb dX10_init_19 rfl (lv_at hl 0 rfl) ?_
  refine lv_iconst (v := (3 : Int32)) hx hb dX10_init_20 (by decide) ?_
  refine r_newI (N := 3) cx w (List.mem_of_getElem? (i := 4) rfl) (by decide) (by decide) (Nat.le_of_ble_eq_true rfl) (Nat.le_of_ble_eq_true rfl) (Nat.le_of_ble_eq_true rfl) dX10_init_21 (fun q9 H nq9 w cx => ?_)
  obtain ⟨G10, eG10⟩ : ∃ z, z = gNw G8 q9 12 3 := ⟨_, rfl⟩
  obtain ⟨M11, eM11⟩ : ∃ z, z = wZ M7 q9 := ⟨_, rfl⟩
  rw [← eG10] at cx
  rw [← eG10, ← eM11] at w
  have h := h q9 nq9 G10 eG10 M11 eM11
  have xG10 := ext_nw eG10 nq9
  have hKa0 := ext_K xG10 hLa0 hKa0
  have hLa0 := ext_L xG10 hLa0
  have hKq1 := ext_K xG10 hLq1 hKq1
  have hLq1 := ext_L xG10 hLq1
  have hKq5 := ext_K xG10 hLq5 hKq5
  have hLq5 := ext_L xG10 hLq5
  have hext := ext_tr hext xG10
  have hLq9 := nw_Lq eG10
  have hKq9 := nw_Kq eG10
  refine r_putRF (k := 5) cx w tyX10 tyX10_ok nmX10 hLa0 hKa0 (by decide) rfl wk_X10_init_X10 (by decide) rfl hini rfl (tyX10_ok 5 (by decide)) rfl rfl sr_9_5 (ln_9 _ _ (by decide)) hLq9 (by rw [hKq9]; rfl) (List.mem_of_getElem? (i := 7) rfl) dX10_init_23 (fun H locs w cx => ?_)
  obtain ⟨G12, eG12⟩ : ∃ z, z = gSt G10 a0 5 q9 := ⟨_, rfl⟩
  rw [← eG12] at w cx
  have h := h G12 eG12
  have xG12 := ext_st eG12
  have hKa0 := ext_K xG12 hLa0 hKa0
  have hLa0 := ext_L xG12 hLa0
  have hKq1 := ext_K xG12 hLq1 hKq1
  have hLq1 := ext_L xG12 hLq1
  have hKq5 := ext_K xG12 hLq5 hKq5
  have hLq5 := ext_L xG12 hLq5
  have hKq9 := ext_K xG12 hLq9 hKq9
  have hLq9 := ext_L xG12 hLq9
  have hext := ext_tr hext xG12
  refine lv_aload_n hx hb dX10_init_26 rfl (lv_at hl 0 rfl) ?_
  refine lv_bipush (v := (6 : Int32)) hx hb dX10_init_27 (by decide) ?_
  refine r_newI (N := 6) cx w (List.mem_of_getElem? (i := 4) rfl) (by decide) (by decide) (Nat.le_of_ble_eq_true rfl) (Nat.le_of_ble_eq_true rfl) (Nat.le_of_ble_eq_true rfl) dX10_init_29 (fun q13 H nq13 w cx => ?_)
  obtain ⟨G14, eG14⟩ : ∃ z, z = gNw G12 q13 12 6 := ⟨_, rfl⟩
  obtain ⟨M15, eM15⟩ : ∃ z, z = wZ M11 q13 := ⟨_, rfl⟩
  rw [← eG14] at cx
  rw [← eG14, ← eM15] at w
  have h := h q13 nq13 G14 eG14 M15 eM15
  have xG14 := ext_nw eG14 nq13
  have hKa0 := ext_K xG14 hLa0 hKa0
  have hLa0 := ext_L xG14 hLa0
  have hKq1 := ext_K xG14 hLq1 hKq1
  have hLq1 := ext_L xG14 hLq1
  have hKq5 := ext_K xG14 hLq5 hKq5
  have hLq5 := ext_L xG14 hLq5
  have hKq9 := ext_K xG14 hLq9 hKq9
  have hLq9 := ext_L xG14 hLq9
  have hext := ext_tr hext xG14
  have hLq13 := nw_Lq eG14
  have hKq13 := nw_Kq eG14
  refine r_putRF (k := 6) cx w tyX10 tyX10_ok nmX10 hLa0 hKa0 (by decide) rfl wk_X10_init_X10 (by decide) rfl hini rfl (tyX10_ok 6 (by decide)) rfl rfl sr_9_6 (ln_9 _ _ (by decide)) hLq13 (by rw [hKq13]; rfl) (List.mem_of_getElem? (i := 8) rfl) dX10_init_31 (fun H locs w cx => ?_)
  obtain ⟨G16, eG16⟩ : ∃ z, z = gSt G14 a0 6 q13 := ⟨_, rfl⟩
  rw [← eG16] at w cx
  have h := h G16 eG16
  have xG16 := ext_st eG16
  have hKa0 := ext_K xG16 hLa0 hKa0
  have hLa0 := ext_L xG16 hLa0
  have hKq1 := ext_K xG16 hLq1 hKq1
  have hLq1 := ext_L xG16 hLq1
  have hKq5 := ext_K xG16 hLq5 hKq5
  have hLq5 := ext_L xG16 hLq5
  have hKq9 := ext_K xG16 hLq9 hKq9
  have hLq9 := ext_L xG16 hLq9
  have hKq13 := ext_K xG16 hLq13 hKq13
  have hLq13 := ext_L xG16 hLq13
  have hext := ext_tr hext xG16
  refine lv_aload_n hx hb dX10_init_34 rfl (lv_at hl 0 rfl) ?_
  refine lv_bipush (v := (6 : Int32)) hx hb dX10_init_35 (by decide) ?_
  refine r_newI (N := 6) cx w (List.mem_of_getElem? (i := 4) rfl) (by decide) (by decide) (Nat.le_of_ble_eq_true rfl) (Nat.le_of_ble_eq_true rfl) (Nat.le_of_ble_eq_true rfl) dX10_init_37 (fun q17 H nq17 w cx => ?_)
  obtain ⟨G18, eG18⟩ : ∃ z, z = gNw G16 q17 12 6 := ⟨_, rfl⟩
  obtain ⟨M19, eM19⟩ : ∃ z, z = wZ M15 q17 := ⟨_, rfl⟩
  rw [← eG18] at cx
  rw [← eG18, ← eM19] at w
  have h := h q17 nq17 G18 eG18 M19 eM19
  have xG18 := ext_nw eG18 nq17
  have hKa0 := ext_K xG18 hLa0 hKa0
  have hLa0 := ext_L xG18 hLa0
  have hKq1 := ext_K xG18 hLq1 hKq1
  have hLq1 := ext_L xG18 hLq1
  have hKq5 := ext_K xG18 hLq5 hKq5
  have hLq5 := ext_L xG18 hLq5
  have hKq9 := ext_K xG18 hLq9 hKq9
  have hLq9 := ext_L xG18 hLq9
  have hKq13 := ext_K xG18 hLq13 hKq13
  have hLq13 := ext_L xG18 hLq13
  have hext := ext_tr hext xG18
  have hLq17 := nw_Lq eG18
  have hKq17 := nw_Kq eG18
  refine r_putRF (k := 7) cx w tyX10 tyX10_ok nmX10 hLa0 hKa0 (by decide) rfl wk_X10_init_X10 (by decide) rfl hini rfl (tyX10_ok 7 (by decide)) rfl rfl sr_9_7 (ln_9 _ _ (by decide)) hLq17 (by rw [hKq17]; rfl) (List.mem_of_getElem? (i := 9) rfl) dX10_init_39 (fun H locs w cx => ?_)
  obtain ⟨G20, eG20⟩ : ∃ z, z = gSt G18 a0 7 q17 := ⟨_, rfl⟩
  rw [← eG20] at w cx
  have h := h G20 eG20
  have xG20 := ext_st eG20
  have hKa0 := ext_K xG20 hLa0 hKa0
  have hLa0 := ext_L xG20 hLa0
  have hKq1 := ext_K xG20 hLq1 hKq1
  have hLq1 := ext_L xG20 hLq1
  have hKq5 := ext_K xG20 hLq5 hKq5
  have hLq5 := ext_L xG20 hLq5
  have hKq9 := ext_K xG20 hLq9 hKq9
  have hLq9 := ext_L xG20 hLq9
  have hKq13 := ext_K xG20 hLq13 hKq13
  have hLq13 := ext_L xG20 hLq13
  have hKq17 := ext_K xG20 hLq17 hKq17
  have hLq17 := ext_L xG20 hLq17
  have hext := ext_tr hext xG20
  refine lv_aload_n hx hb dX10_init_42 rfl (lv_at hl 0 rfl) ?_
  refine lv_bipush (v := (6 : Int32)) hx hb dX10_init_43 (by decide) ?_
  refine r_newI (N := 6) cx w (List.mem_of_getElem? (i := 4) rfl) (by decide) (by decide) (Nat.le_of_ble_eq_true rfl) (Nat.le_of_ble_eq_true rfl) (Nat.le_of_ble_eq_true rfl) dX10_init_45 (fun q21 H nq21 w cx => ?_)
  obtain ⟨G22, eG22⟩ : ∃ z, z = gNw G20 q21 12 6 := ⟨_, rfl⟩
  obtain ⟨M23, eM23⟩ : ∃ z, z = wZ M19 q21 := ⟨_, rfl⟩
  rw [← eG22] at cx
  rw [← eG22, ← eM23] at w
  have h := h q21 nq21 G22 eG22 M23 eM23
  have xG22 := ext_nw eG22 nq21
  have hKa0 := ext_K xG22 hLa0 hKa0
  have hLa0 := ext_L xG22 hLa0
  have hKq1 := ext_K xG22 hLq1 hKq1
  have hLq1 := ext_L xG22 hLq1
  have hKq5 := ext_K xG22 hLq5 hKq5
  have hLq5 := ext_L xG22 hLq5
  have hKq9 := ext_K xG22 hLq9 hKq9
  have hLq9 := ext_L xG22 hLq9
  have hKq13 := ext_K xG22 hLq13 hKq13
  have hLq13 := ext_L xG22 hLq13
  have hKq17 := ext_K xG22 hLq17 hKq17
  have hLq17 := ext_L xG22 hLq17
  have hext := ext_tr hext xG22
  have hLq21 := nw_Lq eG22
  have hKq21 := nw_Kq eG22
  refine r_putRF (k := 8) cx w tyX10 tyX10_ok nmX10 hLa0 hKa0 (by decide) rfl wk_X10_init_X10 (by decide) rfl hini rfl (tyX10_ok 8 (by decide)) rfl rfl sr_9_8 (ln_9 _ _ (by decide)) hLq21 (by rw [hKq21]; rfl) (List.mem_of_getElem? (i := 10) rfl) dX10_init_47 (fun H locs w cx => ?_)
  obtain ⟨G24, eG24⟩ : ∃ z, z = gSt G22 a0 8 q21 := ⟨_, rfl⟩
  rw [← eG24] at w cx
  have h := h G24 eG24
  have xG24 := ext_st eG24
  have hKa0 := ext_K xG24 hLa0 hKa0
  have hLa0 := ext_L xG24 hLa0
  have hKq1 := ext_K xG24 hLq1 hKq1
  have hLq1 := ext_L xG24 hLq1
  have hKq5 := ext_K xG24 hLq5 hKq5
  have hLq5 := ext_L xG24 hLq5
  have hKq9 := ext_K xG24 hLq9 hKq9
  have hLq9 := ext_L xG24 hLq9
  have hKq13 := ext_K xG24 hLq13 hKq13
  have hLq13 := ext_L xG24 hLq13
  have hKq17 := ext_K xG24 hLq17 hKq17
  have hLq17 := ext_L xG24 hLq17
  have hKq21 := ext_K xG24 hLq21 hKq21
  have hLq21 := ext_L xG24 hLq21
  have hext := ext_tr hext xG24
  refine lv_aload_n hx hb dX10_init_50 rfl (lv_at hl 0 rfl) ?_
  refine lv_bipush (v := (6 : Int32)) hx hb dX10_init_51 (by decide) ?_
  refine r_newI (N := 6) cx w (List.mem_of_getElem? (i := 4) rfl) (by decide) (by decide) (Nat.le_of_ble_eq_true rfl) (Nat.le_of_ble_eq_true rfl) (Nat.le_of_ble_eq_true rfl) dX10_init_53 (fun q25 H nq25 w cx => ?_)
  obtain ⟨G26, eG26⟩ : ∃ z, z = gNw G24 q25 12 6 := ⟨_, rfl⟩
  obtain ⟨M27, eM27⟩ : ∃ z, z = wZ M23 q25 := ⟨_, rfl⟩
  rw [← eG26] at cx
  rw [← eG26, ← eM27] at w
  have h := h q25 nq25 G26 eG26 M27 eM27
  have xG26 := ext_nw eG26 nq25
  have hKa0 := ext_K xG26 hLa0 hKa0
  have hLa0 := ext_L xG26 hLa0
  have hKq1 := ext_K xG26 hLq1 hKq1
  have hLq1 := ext_L xG26 hLq1
  have hKq5 := ext_K xG26 hLq5 hKq5
  have hLq5 := ext_L xG26 hLq5
  have hKq9 := ext_K xG26 hLq9 hKq9
  have hLq9 := ext_L xG26 hLq9
  have hKq13 := ext_K xG26 hLq13 hKq13
  have hLq13 := ext_L xG26 hLq13
  have hKq17 := ext_K xG26 hLq17 hKq17
  have hLq17 := ext_L xG26 hLq17
  have hKq21 := ext_K xG26 hLq21 hKq21
  have hLq21 := ext_L xG26 hLq21
  have hext := ext_tr hext xG26
  have hLq25 := nw_Lq eG26
  have hKq25 := nw_Kq eG26
  refine r_putRF (k := 9) cx w tyX10 tyX10_ok nmX10 hLa0 hKa0 (by decide) rfl wk_X10_init_X10 (by decide) rfl hini rfl (tyX10_ok 9 (by decide)) rfl rfl sr_9_9 (ln_9 _ _ (by decide)) hLq25 (by rw [hKq25]; rfl) (List.mem_of_getElem? (i := 11) rfl) dX10_init_55 (fun H locs w cx => ?_)
  obtain ⟨G28, eG28⟩ : ∃ z, z = gSt G26 a0 9 q25 := ⟨_, rfl⟩
  rw [← eG28] at w cx
  have h := h G28 eG28
  have xG28 := ext_st eG28
  have hKa0 := ext_K xG28 hLa0 hKa0
  have hLa0 := ext_L xG28 hLa0
  have hKq1 := ext_K xG28 hLq1 hKq1
  have hLq1 := ext_L xG28 hLq1
  have hKq5 := ext_K xG28 hLq5 hKq5
  have hLq5 := ext_L xG28 hLq5
  have hKq9 := ext_K xG28 hLq9 hKq9
  have hLq9 := ext_L xG28 hLq9
  have hKq13 := ext_K xG28 hLq13 hKq13
  have hLq13 := ext_L xG28 hLq13
  have hKq17 := ext_K xG28 hLq17 hKq17
  have hLq17 := ext_L xG28 hLq17
  have hKq21 := ext_K xG28 hLq21 hKq21
  have hLq21 := ext_L xG28 hLq21
  have hKq25 := ext_K xG28 hLq25 hKq25
  have hLq25 := ext_L xG28 hLq25
  have hext := ext_tr hext xG28
  refine lv_aload_n hx hb dX10_init_58 rfl (lv_at hl 0 rfl) ?_
  refine lv_sipush (v := (4096 : Int32)) hx hb dX10_init_59 (by decide) ?_
  refine r_newI (N := 4096) cx w (List.mem_of_getElem? (i := 4) rfl) (by decide) (by decide) (Nat.le_of_ble_eq_true rfl) (Nat.le_of_ble_eq_true rfl) (Nat.le_of_ble_eq_true rfl) dX10_init_62 (fun q29 H nq29 w cx => ?_)
  obtain ⟨G30, eG30⟩ : ∃ z, z = gNw G28 q29 12 4096 := ⟨_, rfl⟩
  obtain ⟨M31, eM31⟩ : ∃ z, z = wZ M27 q29 := ⟨_, rfl⟩
  rw [← eG30] at cx
  rw [← eG30, ← eM31] at w
  have h := h q29 nq29 G30 eG30 M31 eM31
  have xG30 := ext_nw eG30 nq29
  have hKa0 := ext_K xG30 hLa0 hKa0
  have hLa0 := ext_L xG30 hLa0
  have hKq1 := ext_K xG30 hLq1 hKq1
  have hLq1 := ext_L xG30 hLq1
  have hKq5 := ext_K xG30 hLq5 hKq5
  have hLq5 := ext_L xG30 hLq5
  have hKq9 := ext_K xG30 hLq9 hKq9
  have hLq9 := ext_L xG30 hLq9
  have hKq13 := ext_K xG30 hLq13 hKq13
  have hLq13 := ext_L xG30 hLq13
  have hKq17 := ext_K xG30 hLq17 hKq17
  have hLq17 := ext_L xG30 hLq17
  have hKq21 := ext_K xG30 hLq21 hKq21
  have hLq21 := ext_L xG30 hLq21
  have hKq25 := ext_K xG30 hLq25 hKq25
  have hLq25 := ext_L xG30 hLq25
  have hext := ext_tr hext xG30
  have hLq29 := nw_Lq eG30
  have hKq29 := nw_Kq eG30
  refine r_putRF (k := 10) cx w tyX10 tyX10_ok nmX10 hLa0 hKa0 (by decide) rfl wk_X10_init_X10 (by decide) rfl hini rfl (tyX10_ok 10 (by decide)) rfl rfl sr_9_10 (ln_9 _ _ (by decide)) hLq29 (by rw [hKq29]; rfl) (List.mem_of_getElem? (i := 12) rfl) dX10_init_64 (fun H locs w cx => ?_)
  obtain ⟨G32, eG32⟩ : ∃ z, z = gSt G30 a0 10 q29 := ⟨_, rfl⟩
  rw [← eG32] at w cx
  have h := h G32 eG32
  have xG32 := ext_st eG32
  have hKa0 := ext_K xG32 hLa0 hKa0
  have hLa0 := ext_L xG32 hLa0
  have hKq1 := ext_K xG32 hLq1 hKq1
  have hLq1 := ext_L xG32 hLq1
  have hKq5 := ext_K xG32 hLq5 hKq5
  have hLq5 := ext_L xG32 hLq5
  have hKq9 := ext_K xG32 hLq9 hKq9
  have hLq9 := ext_L xG32 hLq9
  have hKq13 := ext_K xG32 hLq13 hKq13
  have hLq13 := ext_L xG32 hLq13
  have hKq17 := ext_K xG32 hLq17 hKq17
  have hLq17 := ext_L xG32 hLq17
  have hKq21 := ext_K xG32 hLq21 hKq21
  have hLq21 := ext_L xG32 hLq21
  have hKq25 := ext_K xG32 hLq25 hKq25
  have hLq25 := ext_L xG32 hLq25
  have hKq29 := ext_K xG32 hLq29 hKq29
  have hLq29 := ext_L xG32 hLq29
  have hext := ext_tr hext xG32
  refine lv_aload_n hx hb dX10_init_67 rfl (lv_at hl 0 rfl) ?_
  refine lv_bipush (v := (20 : Int32)) hx hb dX10_init_68 (by decide) ?_
  refine r_newI (N := 20) cx w (List.mem_of_getElem? (i := 4) rfl) (by decide) (by decide) (Nat.le_of_ble_eq_true rfl) (Nat.le_of_ble_eq_true rfl) (Nat.le_of_ble_eq_true rfl) dX10_init_70 (fun q33 H nq33 w cx => ?_)
  obtain ⟨G34, eG34⟩ : ∃ z, z = gNw G32 q33 12 20 := ⟨_, rfl⟩
  obtain ⟨M35, eM35⟩ : ∃ z, z = wZ M31 q33 := ⟨_, rfl⟩
  rw [← eG34] at cx
  rw [← eG34, ← eM35] at w
  have h := h q33 nq33 G34 eG34 M35 eM35
  have xG34 := ext_nw eG34 nq33
  have hKa0 := ext_K xG34 hLa0 hKa0
  have hLa0 := ext_L xG34 hLa0
  have hKq1 := ext_K xG34 hLq1 hKq1
  have hLq1 := ext_L xG34 hLq1
  have hKq5 := ext_K xG34 hLq5 hKq5
  have hLq5 := ext_L xG34 hLq5
  have hKq9 := ext_K xG34 hLq9 hKq9
  have hLq9 := ext_L xG34 hLq9
  have hKq13 := ext_K xG34 hLq13 hKq13
  have hLq13 := ext_L xG34 hLq13
  have hKq17 := ext_K xG34 hLq17 hKq17
  have hLq17 := ext_L xG34 hLq17
  have hKq21 := ext_K xG34 hLq21 hKq21
  have hLq21 := ext_L xG34 hLq21
  have hKq25 := ext_K xG34 hLq25 hKq25
  have hLq25 := ext_L xG34 hLq25
  have hKq29 := ext_K xG34 hLq29 hKq29
  have hLq29 := ext_L xG34 hLq29
  have hext := ext_tr hext xG34
  have hLq33 := nw_Lq eG34
  have hKq33 := nw_Kq eG34
  refine r_putRF (k := 13) cx w tyX10 tyX10_ok nmX10 hLa0 hKa0 (by decide) rfl wk_X10_init_X10 (by decide) rfl hini rfl (tyX10_ok 13 (by decide)) rfl rfl sr_9_13 (ln_9 _ _ (by decide)) hLq33 (by rw [hKq33]; rfl) (List.mem_of_getElem? (i := 13) rfl) dX10_init_72 (fun H locs w cx => ?_)
  obtain ⟨G36, eG36⟩ : ∃ z, z = gSt G34 a0 13 q33 := ⟨_, rfl⟩
  rw [← eG36] at w cx
  have h := h G36 eG36
  have xG36 := ext_st eG36
  have hKa0 := ext_K xG36 hLa0 hKa0
  have hLa0 := ext_L xG36 hLa0
  have hKq1 := ext_K xG36 hLq1 hKq1
  have hLq1 := ext_L xG36 hLq1
  have hKq5 := ext_K xG36 hLq5 hKq5
  have hLq5 := ext_L xG36 hLq5
  have hKq9 := ext_K xG36 hLq9 hKq9
  have hLq9 := ext_L xG36 hLq9
  have hKq13 := ext_K xG36 hLq13 hKq13
  have hLq13 := ext_L xG36 hLq13
  have hKq17 := ext_K xG36 hLq17 hKq17
  have hLq17 := ext_L xG36 hLq17
  have hKq21 := ext_K xG36 hLq21 hKq21
  have hLq21 := ext_L xG36 hLq21
  have hKq25 := ext_K xG36 hLq25 hKq25
  have hLq25 := ext_L xG36 hLq25
  have hKq29 := ext_K xG36 hLq29 hKq29
  have hLq29 := ext_L xG36 hLq29
  have hKq33 := ext_K xG36 hLq33 hKq33
  have hLq33 := ext_L xG36 hLq33
  have hext := ext_tr hext xG36
  refine lv_aload_n hx hb dX10_init_75 rfl (lv_at hl 0 rfl) ?_
  refine lv_bipush (v := (20 : Int32)) hx hb dX10_init_76 (by decide) ?_
  refine r_newI (N := 20) cx w (List.mem_of_getElem? (i := 4) rfl) (by decide) (by decide) (Nat.le_of_ble_eq_true rfl) (Nat.le_of_ble_eq_true rfl) (Nat.le_of_ble_eq_true rfl) dX10_init_78 (fun q37 H nq37 w cx => ?_)
  obtain ⟨G38, eG38⟩ : ∃ z, z = gNw G36 q37 12 20 := ⟨_, rfl⟩
  obtain ⟨M39, eM39⟩ : ∃ z, z = wZ M35 q37 := ⟨_, rfl⟩
  rw [← eG38] at cx
  rw [← eG38, ← eM39] at w
  have h := h q37 nq37 G38 eG38 M39 eM39
  have xG38 := ext_nw eG38 nq37
  have hKa0 := ext_K xG38 hLa0 hKa0
  have hLa0 := ext_L xG38 hLa0
  have hKq1 := ext_K xG38 hLq1 hKq1
  have hLq1 := ext_L xG38 hLq1
  have hKq5 := ext_K xG38 hLq5 hKq5
  have hLq5 := ext_L xG38 hLq5
  have hKq9 := ext_K xG38 hLq9 hKq9
  have hLq9 := ext_L xG38 hLq9
  have hKq13 := ext_K xG38 hLq13 hKq13
  have hLq13 := ext_L xG38 hLq13
  have hKq17 := ext_K xG38 hLq17 hKq17
  have hLq17 := ext_L xG38 hLq17
  have hKq21 := ext_K xG38 hLq21 hKq21
  have hLq21 := ext_L xG38 hLq21
  have hKq25 := ext_K xG38 hLq25 hKq25
  have hLq25 := ext_L xG38 hLq25
  have hKq29 := ext_K xG38 hLq29 hKq29
  have hLq29 := ext_L xG38 hLq29
  have hKq33 := ext_K xG38 hLq33 hKq33
  have hLq33 := ext_L xG38 hLq33
  have hext := ext_tr hext xG38
  have hLq37 := nw_Lq eG38
  have hKq37 := nw_Kq eG38
  refine r_putRF (k := 14) cx w tyX10 tyX10_ok nmX10 hLa0 hKa0 (by decide) rfl wk_X10_init_X10 (by decide) rfl hini rfl (tyX10_ok 14 (by decide)) rfl rfl sr_9_14 (ln_9 _ _ (by decide)) hLq37 (by rw [hKq37]; rfl) (List.mem_of_getElem? (i := 14) rfl) dX10_init_80 (fun H locs w cx => ?_)
  obtain ⟨G40, eG40⟩ : ∃ z, z = gSt G38 a0 14 q37 := ⟨_, rfl⟩
  rw [← eG40] at w cx
  have h := h G40 eG40
  have xG40 := ext_st eG40
  have hKa0 := ext_K xG40 hLa0 hKa0
  have hLa0 := ext_L xG40 hLa0
  have hKq1 := ext_K xG40 hLq1 hKq1
  have hLq1 := ext_L xG40 hLq1
  have hKq5 := ext_K xG40 hLq5 hKq5
  have hLq5 := ext_L xG40 hLq5
  have hKq9 := ext_K xG40 hLq9 hKq9
  have hLq9 := ext_L xG40 hLq9
  have hKq13 := ext_K xG40 hLq13 hKq13
  have hLq13 := ext_L xG40 hLq13
  have hKq17 := ext_K xG40 hLq17 hKq17
  have hLq17 := ext_L xG40 hLq17
  have hKq21 := ext_K xG40 hLq21 hKq21
  have hLq21 := ext_L xG40 hLq21
  have hKq25 := ext_K xG40 hLq25 hKq25
  have hLq25 := ext_L xG40 hLq25
  have hKq29 := ext_K xG40 hLq29 hKq29
  have hLq29 := ext_L xG40 hLq29
  have hKq33 := ext_K xG40 hLq33 hKq33
  have hLq33 := ext_L xG40 hLq33
  have hKq37 := ext_K xG40 hLq37 hKq37
  have hLq37 := ext_L xG40 hLq37
  have hext := ext_tr hext xG40
  refine lv_aload_n hx hb dX10_init_83 rfl (lv_at hl 0 rfl) ?_
  refine lv_bipush (v := (20 : Int32)) hx hb dX10_init_84 (by decide) ?_
  refine r_newI (N := 20) cx w (List.mem_of_getElem? (i := 4) rfl) (by decide) (by decide) (Nat.le_of_ble_eq_true rfl) (Nat.le_of_ble_eq_true rfl) (Nat.le_of_ble_eq_true rfl) dX10_init_86 (fun q41 H nq41 w cx => ?_)
  obtain ⟨G42, eG42⟩ : ∃ z, z = gNw G40 q41 12 20 := ⟨_, rfl⟩
  obtain ⟨M43, eM43⟩ : ∃ z, z = wZ M39 q41 := ⟨_, rfl⟩
  rw [← eG42] at cx
  rw [← eG42, ← eM43] at w
  have h := h q41 nq41 G42 eG42 M43 eM43
  have xG42 := ext_nw eG42 nq41
  have hKa0 := ext_K xG42 hLa0 hKa0
  have hLa0 := ext_L xG42 hLa0
  have hKq1 := ext_K xG42 hLq1 hKq1
  have hLq1 := ext_L xG42 hLq1
  have hKq5 := ext_K xG42 hLq5 hKq5
  have hLq5 := ext_L xG42 hLq5
  have hKq9 := ext_K xG42 hLq9 hKq9
  have hLq9 := ext_L xG42 hLq9
  have hKq13 := ext_K xG42 hLq13 hKq13
  have hLq13 := ext_L xG42 hLq13
  have hKq17 := ext_K xG42 hLq17 hKq17
  have hLq17 := ext_L xG42 hLq17
  have hKq21 := ext_K xG42 hLq21 hKq21
  have hLq21 := ext_L xG42 hLq21
  have hKq25 := ext_K xG42 hLq25 hKq25
  have hLq25 := ext_L xG42 hLq25
  have hKq29 := ext_K xG42 hLq29 hKq29
  have hLq29 := ext_L xG42 hLq29
  have hKq33 := ext_K xG42 hLq33 hKq33
  have hLq33 := ext_L xG42 hLq33
  have hKq37 := ext_K xG42 hLq37 hKq37
  have hLq37 := ext_L xG42 hLq37
  have hext := ext_tr hext xG42
  have hLq41 := nw_Lq eG42
  have hKq41 := nw_Kq eG42
  refine r_putRF (k := 15) cx w tyX10 tyX10_ok nmX10 hLa0 hKa0 (by decide) rfl wk_X10_init_X10 (by decide) rfl hini rfl (tyX10_ok 15 (by decide)) rfl rfl sr_9_15 (ln_9 _ _ (by decide)) hLq41 (by rw [hKq41]; rfl) (List.mem_of_getElem? (i := 15) rfl) dX10_init_88 (fun H locs w cx => ?_)
  obtain ⟨G44, eG44⟩ : ∃ z, z = gSt G42 a0 15 q41 := ⟨_, rfl⟩
  rw [← eG44] at w cx
  have h := h G44 eG44
  have xG44 := ext_st eG44
  have hKa0 := ext_K xG44 hLa0 hKa0
  have hLa0 := ext_L xG44 hLa0
  have hKq1 := ext_K xG44 hLq1 hKq1
  have hLq1 := ext_L xG44 hLq1
  have hKq5 := ext_K xG44 hLq5 hKq5
  have hLq5 := ext_L xG44 hLq5
  have hKq9 := ext_K xG44 hLq9 hKq9
  have hLq9 := ext_L xG44 hLq9
  have hKq13 := ext_K xG44 hLq13 hKq13
  have hLq13 := ext_L xG44 hLq13
  have hKq17 := ext_K xG44 hLq17 hKq17
  have hLq17 := ext_L xG44 hLq17
  have hKq21 := ext_K xG44 hLq21 hKq21
  have hLq21 := ext_L xG44 hLq21
  have hKq25 := ext_K xG44 hLq25 hKq25
  have hLq25 := ext_L xG44 hLq25
  have hKq29 := ext_K xG44 hLq29 hKq29
  have hLq29 := ext_L xG44 hLq29
  have hKq33 := ext_K xG44 hLq33 hKq33
  have hLq33 := ext_L xG44 hLq33
  have hKq37 := ext_K xG44 hLq37 hKq37
  have hLq37 := ext_L xG44 hLq37
  have hKq41 := ext_K xG44 hLq41 hKq41
  have hLq41 := ext_L xG44 hLq41
  have hext := ext_tr hext xG44
  refine lv_aload_n hx hb dX10_init_91 rfl (lv_at hl 0 rfl) ?_
  refine lv_bipush (v := (21 : Int32)) hx hb dX10_init_92 (by decide) ?_
  refine r_newI (N := 21) cx w (List.mem_of_getElem? (i := 4) rfl) (by decide) (by decide) (Nat.le_of_ble_eq_true rfl) (Nat.le_of_ble_eq_true rfl) (Nat.le_of_ble_eq_true rfl) dX10_init_94 (fun q45 H nq45 w cx => ?_)
  obtain ⟨G46, eG46⟩ : ∃ z, z = gNw G44 q45 12 21 := ⟨_, rfl⟩
  obtain ⟨M47, eM47⟩ : ∃ z, z = wZ M43 q45 := ⟨_, rfl⟩
  rw [← eG46] at cx
  rw [← eG46, ← eM47] at w
  have h := h q45 nq45 G46 eG46 M47 eM47
  have xG46 := ext_nw eG46 nq45
  have hKa0 := ext_K xG46 hLa0 hKa0
  have hLa0 := ext_L xG46 hLa0
  have hKq1 := ext_K xG46 hLq1 hKq1
  have hLq1 := ext_L xG46 hLq1
  have hKq5 := ext_K xG46 hLq5 hKq5
  have hLq5 := ext_L xG46 hLq5
  have hKq9 := ext_K xG46 hLq9 hKq9
  have hLq9 := ext_L xG46 hLq9
  have hKq13 := ext_K xG46 hLq13 hKq13
  have hLq13 := ext_L xG46 hLq13
  have hKq17 := ext_K xG46 hLq17 hKq17
  have hLq17 := ext_L xG46 hLq17
  have hKq21 := ext_K xG46 hLq21 hKq21
  have hLq21 := ext_L xG46 hLq21
  have hKq25 := ext_K xG46 hLq25 hKq25
  have hLq25 := ext_L xG46 hLq25
  have hKq29 := ext_K xG46 hLq29 hKq29
  have hLq29 := ext_L xG46 hLq29
  have hKq33 := ext_K xG46 hLq33 hKq33
  have hLq33 := ext_L xG46 hLq33
  have hKq37 := ext_K xG46 hLq37 hKq37
  have hLq37 := ext_L xG46 hLq37
  have hKq41 := ext_K xG46 hLq41 hKq41
  have hLq41 := ext_L xG46 hLq41
  have hext := ext_tr hext xG46
  have hLq45 := nw_Lq eG46
  have hKq45 := nw_Kq eG46
  refine r_putRF (k := 16) cx w tyX10 tyX10_ok nmX10 hLa0 hKa0 (by decide) rfl wk_X10_init_X10 (by decide) rfl hini rfl (tyX10_ok 16 (by decide)) rfl rfl sr_9_16 (ln_9 _ _ (by decide)) hLq45 (by rw [hKq45]; rfl) (List.mem_of_getElem? (i := 16) rfl) dX10_init_96 (fun H locs w cx => ?_)
  obtain ⟨G48, eG48⟩ : ∃ z, z = gSt G46 a0 16 q45 := ⟨_, rfl⟩
  rw [← eG48] at w cx
  have h := h G48 eG48
  have xG48 := ext_st eG48
  have hKa0 := ext_K xG48 hLa0 hKa0
  have hLa0 := ext_L xG48 hLa0
  have hKq1 := ext_K xG48 hLq1 hKq1
  have hLq1 := ext_L xG48 hLq1
  have hKq5 := ext_K xG48 hLq5 hKq5
  have hLq5 := ext_L xG48 hLq5
  have hKq9 := ext_K xG48 hLq9 hKq9
  have hLq9 := ext_L xG48 hLq9
  have hKq13 := ext_K xG48 hLq13 hKq13
  have hLq13 := ext_L xG48 hLq13
  have hKq17 := ext_K xG48 hLq17 hKq17
  have hLq17 := ext_L xG48 hLq17
  have hKq21 := ext_K xG48 hLq21 hKq21
  have hLq21 := ext_L xG48 hLq21
  have hKq25 := ext_K xG48 hLq25 hKq25
  have hLq25 := ext_L xG48 hLq25
  have hKq29 := ext_K xG48 hLq29 hKq29
  have hLq29 := ext_L xG48 hLq29
  have hKq33 := ext_K xG48 hLq33 hKq33
  have hLq33 := ext_L xG48 hLq33
  have hKq37 := ext_K xG48 hLq37 hKq37
  have hLq37 := ext_L xG48 hLq37
  have hKq41 := ext_K xG48 hLq41 hKq41
  have hLq41 := ext_L xG48 hLq41
  have hKq45 := ext_K xG48 hLq45 hKq45
  have hLq45 := ext_L xG48 hLq45
  have hext := ext_tr hext xG48
  refine lv_aload_n hx hb dX10_init_99 rfl (lv_at hl 0 rfl) ?_
  refine lv_bipush (v := (21 : Int32)) hx hb dX10_init_100 (by decide) ?_
  refine r_newI (N := 21) cx w (List.mem_of_getElem? (i := 4) rfl) (by decide) (by decide) (Nat.le_of_ble_eq_true rfl) (Nat.le_of_ble_eq_true rfl) (Nat.le_of_ble_eq_true rfl) dX10_init_102 (fun q49 H nq49 w cx => ?_)
  obtain ⟨G50, eG50⟩ : ∃ z, z = gNw G48 q49 12 21 := ⟨_, rfl⟩
  obtain ⟨M51, eM51⟩ : ∃ z, z = wZ M47 q49 := ⟨_, rfl⟩
  rw [← eG50] at cx
  rw [← eG50, ← eM51] at w
  have h := h q49 nq49 G50 eG50 M51 eM51
  have xG50 := ext_nw eG50 nq49
  have hKa0 := ext_K xG50 hLa0 hKa0
  have hLa0 := ext_L xG50 hLa0
  have hKq1 := ext_K xG50 hLq1 hKq1
  have hLq1 := ext_L xG50 hLq1
  have hKq5 := ext_K xG50 hLq5 hKq5
  have hLq5 := ext_L xG50 hLq5
  have hKq9 := ext_K xG50 hLq9 hKq9
  have hLq9 := ext_L xG50 hLq9
  have hKq13 := ext_K xG50 hLq13 hKq13
  have hLq13 := ext_L xG50 hLq13
  have hKq17 := ext_K xG50 hLq17 hKq17
  have hLq17 := ext_L xG50 hLq17
  have hKq21 := ext_K xG50 hLq21 hKq21
  have hLq21 := ext_L xG50 hLq21
  have hKq25 := ext_K xG50 hLq25 hKq25
  have hLq25 := ext_L xG50 hLq25
  have hKq29 := ext_K xG50 hLq29 hKq29
  have hLq29 := ext_L xG50 hLq29
  have hKq33 := ext_K xG50 hLq33 hKq33
  have hLq33 := ext_L xG50 hLq33
  have hKq37 := ext_K xG50 hLq37 hKq37
  have hLq37 := ext_L xG50 hLq37
  have hKq41 := ext_K xG50 hLq41 hKq41
  have hLq41 := ext_L xG50 hLq41
  have hKq45 := ext_K xG50 hLq45 hKq45
  have hLq45 := ext_L xG50 hLq45
  have hext := ext_tr hext xG50
  have hLq49 := nw_Lq eG50
  have hKq49 := nw_Kq eG50
  refine r_putRF (k := 17) cx w tyX10 tyX10_ok nmX10 hLa0 hKa0 (by decide) rfl wk_X10_init_X10 (by decide) rfl hini rfl (tyX10_ok 17 (by decide)) rfl rfl sr_9_17 (ln_9 _ _ (by decide)) hLq49 (by rw [hKq49]; rfl) (List.mem_of_getElem? (i := 17) rfl) dX10_init_104 (fun H locs w cx => ?_)
  obtain ⟨G52, eG52⟩ : ∃ z, z = gSt G50 a0 17 q49 := ⟨_, rfl⟩
  rw [← eG52] at w cx
  have h := h G52 eG52
  have xG52 := ext_st eG52
  have hKa0 := ext_K xG52 hLa0 hKa0
  have hLa0 := ext_L xG52 hLa0
  have hKq1 := ext_K xG52 hLq1 hKq1
  have hLq1 := ext_L xG52 hLq1
  have hKq5 := ext_K xG52 hLq5 hKq5
  have hLq5 := ext_L xG52 hLq5
  have hKq9 := ext_K xG52 hLq9 hKq9
  have hLq9 := ext_L xG52 hLq9
  have hKq13 := ext_K xG52 hLq13 hKq13
  have hLq13 := ext_L xG52 hLq13
  have hKq17 := ext_K xG52 hLq17 hKq17
  have hLq17 := ext_L xG52 hLq17
  have hKq21 := ext_K xG52 hLq21 hKq21
  have hLq21 := ext_L xG52 hLq21
  have hKq25 := ext_K xG52 hLq25 hKq25
  have hLq25 := ext_L xG52 hLq25
  have hKq29 := ext_K xG52 hLq29 hKq29
  have hLq29 := ext_L xG52 hLq29
  have hKq33 := ext_K xG52 hLq33 hKq33
  have hLq33 := ext_L xG52 hLq33
  have hKq37 := ext_K xG52 hLq37 hKq37
  have hLq37 := ext_L xG52 hLq37
  have hKq41 := ext_K xG52 hLq41 hKq41
  have hLq41 := ext_L xG52 hLq41
  have hKq45 := ext_K xG52 hLq45 hKq45
  have hLq45 := ext_L xG52 hLq45
  have hKq49 := ext_K xG52 hLq49 hKq49
  have hLq49 := ext_L xG52 hLq49
  have hext := ext_tr hext xG52
  refine lv_aload_n hx hb dX10_init_107 rfl (lv_at hl 0 rfl) ?_
  refine lv_sipush (v := (800 : Int32)) hx hb dX10_init_108 (by decide) ?_
  refine r_newI (N := 800) cx w (List.mem_of_getElem? (i := 4) rfl) (by decide) (by decide) (Nat.le_of_ble_eq_true rfl) (Nat.le_of_ble_eq_true rfl) (Nat.le_of_ble_eq_true rfl) dX10_init_111 (fun q53 H nq53 w cx => ?_)
  obtain ⟨G54, eG54⟩ : ∃ z, z = gNw G52 q53 12 800 := ⟨_, rfl⟩
  obtain ⟨M55, eM55⟩ : ∃ z, z = wZ M51 q53 := ⟨_, rfl⟩
  rw [← eG54] at cx
  rw [← eG54, ← eM55] at w
  have h := h q53 nq53 G54 eG54 M55 eM55
  have xG54 := ext_nw eG54 nq53
  have hKa0 := ext_K xG54 hLa0 hKa0
  have hLa0 := ext_L xG54 hLa0
  have hKq1 := ext_K xG54 hLq1 hKq1
  have hLq1 := ext_L xG54 hLq1
  have hKq5 := ext_K xG54 hLq5 hKq5
  have hLq5 := ext_L xG54 hLq5
  have hKq9 := ext_K xG54 hLq9 hKq9
  have hLq9 := ext_L xG54 hLq9
  have hKq13 := ext_K xG54 hLq13 hKq13
  have hLq13 := ext_L xG54 hLq13
  have hKq17 := ext_K xG54 hLq17 hKq17
  have hLq17 := ext_L xG54 hLq17
  have hKq21 := ext_K xG54 hLq21 hKq21
  have hLq21 := ext_L xG54 hLq21
  have hKq25 := ext_K xG54 hLq25 hKq25
  have hLq25 := ext_L xG54 hLq25
  have hKq29 := ext_K xG54 hLq29 hKq29
  have hLq29 := ext_L xG54 hLq29
  have hKq33 := ext_K xG54 hLq33 hKq33
  have hLq33 := ext_L xG54 hLq33
  have hKq37 := ext_K xG54 hLq37 hKq37
  have hLq37 := ext_L xG54 hLq37
  have hKq41 := ext_K xG54 hLq41 hKq41
  have hLq41 := ext_L xG54 hLq41
  have hKq45 := ext_K xG54 hLq45 hKq45
  have hLq45 := ext_L xG54 hLq45
  have hKq49 := ext_K xG54 hLq49 hKq49
  have hLq49 := ext_L xG54 hLq49
  have hext := ext_tr hext xG54
  have hLq53 := nw_Lq eG54
  have hKq53 := nw_Kq eG54
  refine r_putRF (k := 18) cx w tyX10 tyX10_ok nmX10 hLa0 hKa0 (by decide) rfl wk_X10_init_X10 (by decide) rfl hini rfl (tyX10_ok 18 (by decide)) rfl rfl sr_9_18 (ln_9 _ _ (by decide)) hLq53 (by rw [hKq53]; rfl) (List.mem_of_getElem? (i := 18) rfl) dX10_init_113 (fun H locs w cx => ?_)
  obtain ⟨G56, eG56⟩ : ∃ z, z = gSt G54 a0 18 q53 := ⟨_, rfl⟩
  rw [← eG56] at w cx
  have h := h G56 eG56
  have xG56 := ext_st eG56
  have hKa0 := ext_K xG56 hLa0 hKa0
  have hLa0 := ext_L xG56 hLa0
  have hKq1 := ext_K xG56 hLq1 hKq1
  have hLq1 := ext_L xG56 hLq1
  have hKq5 := ext_K xG56 hLq5 hKq5
  have hLq5 := ext_L xG56 hLq5
  have hKq9 := ext_K xG56 hLq9 hKq9
  have hLq9 := ext_L xG56 hLq9
  have hKq13 := ext_K xG56 hLq13 hKq13
  have hLq13 := ext_L xG56 hLq13
  have hKq17 := ext_K xG56 hLq17 hKq17
  have hLq17 := ext_L xG56 hLq17
  have hKq21 := ext_K xG56 hLq21 hKq21
  have hLq21 := ext_L xG56 hLq21
  have hKq25 := ext_K xG56 hLq25 hKq25
  have hLq25 := ext_L xG56 hLq25
  have hKq29 := ext_K xG56 hLq29 hKq29
  have hLq29 := ext_L xG56 hLq29
  have hKq33 := ext_K xG56 hLq33 hKq33
  have hLq33 := ext_L xG56 hLq33
  have hKq37 := ext_K xG56 hLq37 hKq37
  have hLq37 := ext_L xG56 hLq37
  have hKq41 := ext_K xG56 hLq41 hKq41
  have hLq41 := ext_L xG56 hLq41
  have hKq45 := ext_K xG56 hLq45 hKq45
  have hLq45 := ext_L xG56 hLq45
  have hKq49 := ext_K xG56 hLq49 hKq49
  have hLq49 := ext_L xG56 hLq49
  have hKq53 := ext_K xG56 hLq53 hKq53
  have hLq53 := ext_L xG56 hLq53
  have hext := ext_tr hext xG56
  refine lv_aload_n hx hb dX10_init_116 rfl (lv_at hl 0 rfl) ?_
  refine lv_sipush (v := (400 : Int32)) hx hb dX10_init_117 (by decide) ?_
  refine r_newI (N := 400) cx w (List.mem_of_getElem? (i := 4) rfl) (by decide) (by decide) (Nat.le_of_ble_eq_true rfl) (Nat.le_of_ble_eq_true rfl) (Nat.le_of_ble_eq_true rfl) dX10_init_120 (fun q57 H nq57 w cx => ?_)
  obtain ⟨G58, eG58⟩ : ∃ z, z = gNw G56 q57 12 400 := ⟨_, rfl⟩
  obtain ⟨M59, eM59⟩ : ∃ z, z = wZ M55 q57 := ⟨_, rfl⟩
  rw [← eG58] at cx
  rw [← eG58, ← eM59] at w
  have h := h q57 nq57 G58 eG58 M59 eM59
  have xG58 := ext_nw eG58 nq57
  have hKa0 := ext_K xG58 hLa0 hKa0
  have hLa0 := ext_L xG58 hLa0
  have hKq1 := ext_K xG58 hLq1 hKq1
  have hLq1 := ext_L xG58 hLq1
  have hKq5 := ext_K xG58 hLq5 hKq5
  have hLq5 := ext_L xG58 hLq5
  have hKq9 := ext_K xG58 hLq9 hKq9
  have hLq9 := ext_L xG58 hLq9
  have hKq13 := ext_K xG58 hLq13 hKq13
  have hLq13 := ext_L xG58 hLq13
  have hKq17 := ext_K xG58 hLq17 hKq17
  have hLq17 := ext_L xG58 hLq17
  have hKq21 := ext_K xG58 hLq21 hKq21
  have hLq21 := ext_L xG58 hLq21
  have hKq25 := ext_K xG58 hLq25 hKq25
  have hLq25 := ext_L xG58 hLq25
  have hKq29 := ext_K xG58 hLq29 hKq29
  have hLq29 := ext_L xG58 hLq29
  have hKq33 := ext_K xG58 hLq33 hKq33
  have hLq33 := ext_L xG58 hLq33
  have hKq37 := ext_K xG58 hLq37 hKq37
  have hLq37 := ext_L xG58 hLq37
  have hKq41 := ext_K xG58 hLq41 hKq41
  have hLq41 := ext_L xG58 hLq41
  have hKq45 := ext_K xG58 hLq45 hKq45
  have hLq45 := ext_L xG58 hLq45
  have hKq49 := ext_K xG58 hLq49 hKq49
  have hLq49 := ext_L xG58 hLq49
  have hKq53 := ext_K xG58 hLq53 hKq53
  have hLq53 := ext_L xG58 hLq53
  have hext := ext_tr hext xG58
  have hLq57 := nw_Lq eG58
  have hKq57 := nw_Kq eG58
  refine r_putRF (k := 20) cx w tyX10 tyX10_ok nmX10 hLa0 hKa0 (by decide) rfl wk_X10_init_X10 (by decide) rfl hini rfl (tyX10_ok 20 (by decide)) rfl rfl sr_9_20 (ln_9 _ _ (by decide)) hLq57 (by rw [hKq57]; rfl) (List.mem_of_getElem? (i := 19) rfl) dX10_init_122 (fun H locs w cx => ?_)
  obtain ⟨G60, eG60⟩ : ∃ z, z = gSt G58 a0 20 q57 := ⟨_, rfl⟩
  rw [← eG60] at w cx
  have h := h G60 eG60
  have xG60 := ext_st eG60
  have hKa0 := ext_K xG60 hLa0 hKa0
  have hLa0 := ext_L xG60 hLa0
  have hKq1 := ext_K xG60 hLq1 hKq1
  have hLq1 := ext_L xG60 hLq1
  have hKq5 := ext_K xG60 hLq5 hKq5
  have hLq5 := ext_L xG60 hLq5
  have hKq9 := ext_K xG60 hLq9 hKq9
  have hLq9 := ext_L xG60 hLq9
  have hKq13 := ext_K xG60 hLq13 hKq13
  have hLq13 := ext_L xG60 hLq13
  have hKq17 := ext_K xG60 hLq17 hKq17
  have hLq17 := ext_L xG60 hLq17
  have hKq21 := ext_K xG60 hLq21 hKq21
  have hLq21 := ext_L xG60 hLq21
  have hKq25 := ext_K xG60 hLq25 hKq25
  have hLq25 := ext_L xG60 hLq25
  have hKq29 := ext_K xG60 hLq29 hKq29
  have hLq29 := ext_L xG60 hLq29
  have hKq33 := ext_K xG60 hLq33 hKq33
  have hLq33 := ext_L xG60 hLq33
  have hKq37 := ext_K xG60 hLq37 hKq37
  have hLq37 := ext_L xG60 hLq37
  have hKq41 := ext_K xG60 hLq41 hKq41
  have hLq41 := ext_L xG60 hLq41
  have hKq45 := ext_K xG60 hLq45 hKq45
  have hLq45 := ext_L xG60 hLq45
  have hKq49 := ext_K xG60 hLq49 hKq49
  have hLq49 := ext_L xG60 hLq49
  have hKq53 := ext_K xG60 hLq53 hKq53
  have hLq53 := ext_L xG60 hLq53
  have hKq57 := ext_K xG60 hLq57 hKq57
  have hLq57 := ext_L xG60 hLq57
  have hext := ext_tr hext xG60
  exact r_vretN cx w h hext (Nat.le_of_ble_eq_true rfl) (Nat.le_of_ble_eq_true rfl) dX10_init_125
theorem wk_X11_init_X11 : ∀ w ∈ wsX110, w ∈ wsX11_init := by decide +kernel
abbrev rnX11_init : Room := { frames := 1, cells := 11, slots := 6090, locals := 60 }
def n_X11_init (G : gS) (M : mS) (a0 : Nat) (a1 : Nat) (post : gS → mS → Prop) : Prop := ∀ G1, G1 = gSt G a0 15 a1 → (∀ q2, q2 ∉ gL G1 → ∀ G3, G3 = gNw G1 q2 12 4096 → ∀ M4, M4 = wZ M q2 → (∀ G5, G5 = gSt G3 a0 4 q2 → (∀ q6, q6 ∉ gL G5 → ∀ G7, G7 = gNw G5 q6 12 64 → ∀ M8, M8 = wZ M4 q6 → (∀ G9, G9 = gSt G7 a0 5 q6 → (∀ q10, q10 ∉ gL G9 → ∀ G11, G11 = gNw G9 q10 12 6 → ∀ M12, M12 = wZ M8 q10 → (∀ G13, G13 = gSt G11 a0 6 q10 → (∀ q14, q14 ∉ gL G13 → ∀ G15, G15 = gNw G13 q14 12 6 → ∀ M16, M16 = wZ M12 q14 → (∀ G17, G17 = gSt G15 a0 7 q14 → (∀ q18, q18 ∉ gL G17 → ∀ G19, G19 = gNw G17 q18 12 6 → ∀ M20, M20 = wZ M16 q18 → (∀ G21, G21 = gSt G19 a0 8 q18 → (∀ q22, q22 ∉ gL G21 → ∀ G23, G23 = gNw G21 q22 12 6 → ∀ M24, M24 = wZ M20 q22 → (∀ G25, G25 = gSt G23 a0 9 q22 → (∀ q26, q26 ∉ gL G25 → ∀ G27, G27 = gNw G25 q26 12 6 → ∀ M28, M28 = wZ M24 q26 → (∀ G29, G29 = gSt G27 a0 10 q26 → (∀ q30, q30 ∉ gL G29 → ∀ G31, G31 = gNw G29 q30 12 6 → ∀ M32, M32 = wZ M28 q30 → (∀ G33, G33 = gSt G31 a0 11 q30 → (∀ q34, q34 ∉ gL G33 → ∀ G35, G35 = gNw G33 q34 12 768 → ∀ M36, M36 = wZ M32 q34 → (∀ G37, G37 = gSt G35 a0 12 q34 → (∀ q38, q38 ∉ gL G37 → ∀ G39, G39 = gNw G37 q38 12 726 → ∀ M40, M40 = wZ M36 q38 → (∀ G41, G41 = gSt G39 a0 13 q38 → (∀ q42, q42 ∉ gL G41 → ∀ G43, G43 = gNw G41 q42 12 400 → ∀ M44, M44 = wZ M40 q42 → (∀ G45, G45 = gSt G43 a0 14 q42 → (post G45 M44)))))))))))))))))))))))
set_option maxHeartbeats 4000000 in
set_option maxRecDepth 100000 in
theorem kn_X11_init {l : Launch} {D : va_G} {cy : cyS} {G : gS} {M : mS} {post : gS → mS → Prop} {a0 : Nat} {a1 : Nat} (hG : wt G) (hLa0 : a0 ∈ gL G) (hKa0 : gK G a0 = 10) (hLa1 : a1 ∈ gL G) (hKa1 : gK G a1 = 11) (h : n_X11_init G M a0 a1 post) : ctN l yX11_init wsX11_init rnX11_init D cy G M [.ref a0, .ref a1] 11 6090 post := by
  unfold n_X11_init at h
  refine ctN_of (cc := cX11_init) (nL := 2) (lv := [(0, .ref a0), (1, .ref a1)]) hG (by decide) rfl (Nat.le_of_ble_eq_true rfl) rfl ?_
  intro p e s m args below meth c sz ls hini cx w hl
  obtain ⟨hx, hb, hml, hown, hts, hr, hlocks, hK, hA, -, hsx⟩ := id cx
  have hini : meth.name = "<init>" := hini
  have hext := ext_rf (G := G)
  refine lv_aload_n hx hb dX11_init_0 rfl (lv_at hl 0 rfl) ?_
  refine lv_aload_n hx hb dX11_init_1 rfl (lv_at hl 1 rfl) ?_
  refine r_putRF (k := 15) cx w tyX11 tyX11_ok nmX11 hLa0 hKa0 (by decide) rfl wk_X11_init_X11 (by decide) rfl hini rfl (tyX11_ok 15 (by decide)) rfl rfl sr_10_15 (ln_10 _ _ (by decide)) hLa1 (by rw [hKa1]; rfl) (List.mem_of_getElem? (i := 1) rfl) dX11_init_2 (fun H locs w cx => ?_)
  obtain ⟨G1, eG1⟩ : ∃ z, z = gSt G a0 15 a1 := ⟨_, rfl⟩
  rw [← eG1] at w cx
  have h := h G1 eG1
  have xG1 := ext_st eG1
  have hKa0 := ext_K xG1 hLa0 hKa0
  have hLa0 := ext_L xG1 hLa0
  have hKa1 := ext_K xG1 hLa1 hKa1
  have hLa1 := ext_L xG1 hLa1
  have hext := ext_tr hext xG1
  refine lv_aload_n hx hb dX11_init_5 rfl (lv_at hl 0 rfl) ?_
  refine W.objInit hx hb hown (hts (.methodLink RX11 9 objectInit) (List.mem_of_getElem? (i := 2) rfl)) (hts (.instanceMethod objectInit) (List.mem_of_getElem? (i := 3) rfl)) (hts _ (List.mem_of_getElem? (i := 4) rfl)) rfl (by rw [hml]; exact hl.1) rfl dX11_init_6 (Nat.le_of_ble_eq_true rfl) (Nat.le_of_ble_eq_true rfl) ?_
  refine W.eq (g2 := F0 m 9 ls []) rfl ?_
  refine lv_aload_n hx hb dX11_init_9 rfl (lv_at hl 0 rfl) ?_
  refine lv_sipush (v := (4096 : Int32)) hx hb dX11_init_10 (by decide) ?_
  refine r_newI (N := 4096) cx w (List.mem_of_getElem? (i := 5) rfl) (by decide) (by decide) (Nat.le_of_ble_eq_true rfl) (Nat.le_of_ble_eq_true rfl) (Nat.le_of_ble_eq_true rfl) dX11_init_13 (fun q2 H nq2 w cx => ?_)
  obtain ⟨G3, eG3⟩ : ∃ z, z = gNw G1 q2 12 4096 := ⟨_, rfl⟩
  obtain ⟨M4, eM4⟩ : ∃ z, z = wZ M q2 := ⟨_, rfl⟩
  rw [← eG3] at cx
  rw [← eG3, ← eM4] at w
  have h := h q2 nq2 G3 eG3 M4 eM4
  have xG3 := ext_nw eG3 nq2
  have hKa0 := ext_K xG3 hLa0 hKa0
  have hLa0 := ext_L xG3 hLa0
  have hKa1 := ext_K xG3 hLa1 hKa1
  have hLa1 := ext_L xG3 hLa1
  have hext := ext_tr hext xG3
  have hLq2 := nw_Lq eG3
  have hKq2 := nw_Kq eG3
  refine r_putRF (k := 4) cx w tyX11 tyX11_ok nmX11 hLa0 hKa0 (by decide) rfl wk_X11_init_X11 (by decide) rfl hini rfl (tyX11_ok 4 (by decide)) rfl rfl sr_10_4 (ln_10 _ _ (by decide)) hLq2 (by rw [hKq2]; rfl) (List.mem_of_getElem? (i := 6) rfl) dX11_init_15 (fun H locs w cx => ?_)
  obtain ⟨G5, eG5⟩ : ∃ z, z = gSt G3 a0 4 q2 := ⟨_, rfl⟩
  rw [← eG5] at w cx
  have h := h G5 eG5
  have xG5 := ext_st eG5
  have hKa0 := ext_K xG5 hLa0 hKa0
  have hLa0 := ext_L xG5 hLa0
  have hKa1 := ext_K xG5 hLa1 hKa1
  have hLa1 := ext_L xG5 hLa1
  have hKq2 := ext_K xG5 hLq2 hKq2
  have hLq2 := ext_L xG5 hLq2
  have hext := ext_tr hext xG5
  refine lv_aload_n hx hb dX11_init_18 rfl (lv_at hl 0 rfl) ?_
  refine lv_bipush (v := (64 : Int32)) hx hb dX11_init_19 (by decide) ?_
  refine r_newI (N := 64) cx w (List.mem_of_getElem? (i := 5) rfl) (by decide) (by decide) (Nat.le_of_ble_eq_true rfl) (Nat.le_of_ble_eq_true rfl) (Nat.le_of_ble_eq_true rfl) dX11_init_21 (fun q6 H nq6 w cx => ?_)
  obtain ⟨G7, eG7⟩ : ∃ z, z = gNw G5 q6 12 64 := ⟨_, rfl⟩
  obtain ⟨M8, eM8⟩ : ∃ z, z = wZ M4 q6 := ⟨_, rfl⟩
  rw [← eG7] at cx
  rw [← eG7, ← eM8] at w
  have h := h q6 nq6 G7 eG7 M8 eM8
  have xG7 := ext_nw eG7 nq6
  have hKa0 := ext_K xG7 hLa0 hKa0
  have hLa0 := ext_L xG7 hLa0
  have hKa1 := ext_K xG7 hLa1 hKa1
  have hLa1 := ext_L xG7 hLa1
  have hKq2 := ext_K xG7 hLq2 hKq2
  have hLq2 := ext_L xG7 hLq2
  have hext := ext_tr hext xG7
  have hLq6 := nw_Lq eG7
  have hKq6 := nw_Kq eG7
  refine r_putRF (k := 5) cx w tyX11 tyX11_ok nmX11 hLa0 hKa0 (by decide) rfl wk_X11_init_X11 (by decide) rfl hini rfl (tyX11_ok 5 (by decide)) rfl rfl sr_10_5 (ln_10 _ _ (by decide)) hLq6 (by rw [hKq6]; rfl) (List.mem_of_getElem? (i := 7) rfl) dX11_init_23 (fun H locs w cx => ?_)
  obtain ⟨G9, eG9⟩ : ∃ z, z = gSt G7 a0 5 q6 := ⟨_, rfl⟩
  rw [← eG9] at w cx
  have h := h G9 eG9
  have xG9 := ext_st eG9
  have hKa0 := ext_K xG9 hLa0 hKa0
  have hLa0 := ext_L xG9 hLa0
  have hKa1 := ext_K xG9 hLa1 hKa1
  have hLa1 := ext_L xG9 hLa1
  have hKq2 := ext_K xG9 hLq2 hKq2
  have hLq2 := ext_L xG9 hLq2
  have hKq6 := ext_K xG9 hLq6 hKq6
  have hLq6 := ext_L xG9 hLq6
  have hext := ext_tr hext xG9
  refine lv_aload_n hx hb dX11_init_26 rfl (lv_at hl 0 rfl) ?_
  refine lv_bipush (v := (6 : Int32)) hx hb dX11_init_27 (by decide) ?_
  refine r_newI (N := 6) cx w (List.mem_of_getElem? (i := 5) rfl) (by decide) (by decide) (Nat.le_of_ble_eq_true rfl) (Nat.le_of_ble_eq_true rfl) (Nat.le_of_ble_eq_true rfl) dX11_init_29 (fun q10 H nq10 w cx => ?_)
  obtain ⟨G11, eG11⟩ : ∃ z, z = gNw G9 q10 12 6 := ⟨_, rfl⟩
  obtain ⟨M12, eM12⟩ : ∃ z, z = wZ M8 q10 := ⟨_, rfl⟩
  rw [← eG11] at cx
  rw [← eG11, ← eM12] at w
  have h := h q10 nq10 G11 eG11 M12 eM12
  have xG11 := ext_nw eG11 nq10
  have hKa0 := ext_K xG11 hLa0 hKa0
  have hLa0 := ext_L xG11 hLa0
  have hKa1 := ext_K xG11 hLa1 hKa1
  have hLa1 := ext_L xG11 hLa1
  have hKq2 := ext_K xG11 hLq2 hKq2
  have hLq2 := ext_L xG11 hLq2
  have hKq6 := ext_K xG11 hLq6 hKq6
  have hLq6 := ext_L xG11 hLq6
  have hext := ext_tr hext xG11
  have hLq10 := nw_Lq eG11
  have hKq10 := nw_Kq eG11
  refine r_putRF (k := 6) cx w tyX11 tyX11_ok nmX11 hLa0 hKa0 (by decide) rfl wk_X11_init_X11 (by decide) rfl hini rfl (tyX11_ok 6 (by decide)) rfl rfl sr_10_6 (ln_10 _ _ (by decide)) hLq10 (by rw [hKq10]; rfl) (List.mem_of_getElem? (i := 8) rfl) dX11_init_31 (fun H locs w cx => ?_)
  obtain ⟨G13, eG13⟩ : ∃ z, z = gSt G11 a0 6 q10 := ⟨_, rfl⟩
  rw [← eG13] at w cx
  have h := h G13 eG13
  have xG13 := ext_st eG13
  have hKa0 := ext_K xG13 hLa0 hKa0
  have hLa0 := ext_L xG13 hLa0
  have hKa1 := ext_K xG13 hLa1 hKa1
  have hLa1 := ext_L xG13 hLa1
  have hKq2 := ext_K xG13 hLq2 hKq2
  have hLq2 := ext_L xG13 hLq2
  have hKq6 := ext_K xG13 hLq6 hKq6
  have hLq6 := ext_L xG13 hLq6
  have hKq10 := ext_K xG13 hLq10 hKq10
  have hLq10 := ext_L xG13 hLq10
  have hext := ext_tr hext xG13
  refine lv_aload_n hx hb dX11_init_34 rfl (lv_at hl 0 rfl) ?_
  refine lv_bipush (v := (6 : Int32)) hx hb dX11_init_35 (by decide) ?_
  refine r_newI (N := 6) cx w (List.mem_of_getElem? (i := 5) rfl) (by decide) (by decide) (Nat.le_of_ble_eq_true rfl) (Nat.le_of_ble_eq_true rfl) (Nat.le_of_ble_eq_true rfl) dX11_init_37 (fun q14 H nq14 w cx => ?_)
  obtain ⟨G15, eG15⟩ : ∃ z, z = gNw G13 q14 12 6 := ⟨_, rfl⟩
  obtain ⟨M16, eM16⟩ : ∃ z, z = wZ M12 q14 := ⟨_, rfl⟩
  rw [← eG15] at cx
  rw [← eG15, ← eM16] at w
  have h := h q14 nq14 G15 eG15 M16 eM16
  have xG15 := ext_nw eG15 nq14
  have hKa0 := ext_K xG15 hLa0 hKa0
  have hLa0 := ext_L xG15 hLa0
  have hKa1 := ext_K xG15 hLa1 hKa1
  have hLa1 := ext_L xG15 hLa1
  have hKq2 := ext_K xG15 hLq2 hKq2
  have hLq2 := ext_L xG15 hLq2
  have hKq6 := ext_K xG15 hLq6 hKq6
  have hLq6 := ext_L xG15 hLq6
  have hKq10 := ext_K xG15 hLq10 hKq10
  have hLq10 := ext_L xG15 hLq10
  have hext := ext_tr hext xG15
  have hLq14 := nw_Lq eG15
  have hKq14 := nw_Kq eG15
  refine r_putRF (k := 7) cx w tyX11 tyX11_ok nmX11 hLa0 hKa0 (by decide) rfl wk_X11_init_X11 (by decide) rfl hini rfl (tyX11_ok 7 (by decide)) rfl rfl sr_10_7 (ln_10 _ _ (by decide)) hLq14 (by rw [hKq14]; rfl) (List.mem_of_getElem? (i := 9) rfl) dX11_init_39 (fun H locs w cx => ?_)
  obtain ⟨G17, eG17⟩ : ∃ z, z = gSt G15 a0 7 q14 := ⟨_, rfl⟩
  rw [← eG17] at w cx
  have h := h G17 eG17
  have xG17 := ext_st eG17
  have hKa0 := ext_K xG17 hLa0 hKa0
  have hLa0 := ext_L xG17 hLa0
  have hKa1 := ext_K xG17 hLa1 hKa1
  have hLa1 := ext_L xG17 hLa1
  have hKq2 := ext_K xG17 hLq2 hKq2
  have hLq2 := ext_L xG17 hLq2
  have hKq6 := ext_K xG17 hLq6 hKq6
  have hLq6 := ext_L xG17 hLq6
  have hKq10 := ext_K xG17 hLq10 hKq10
  have hLq10 := ext_L xG17 hLq10
  have hKq14 := ext_K xG17 hLq14 hKq14
  have hLq14 := ext_L xG17 hLq14
  have hext := ext_tr hext xG17
  refine lv_aload_n hx hb dX11_init_42 rfl (lv_at hl 0 rfl) ?_
  refine lv_bipush (v := (6 : Int32)) hx hb dX11_init_43 (by decide) ?_
  refine r_newI (N := 6) cx w (List.mem_of_getElem? (i := 5) rfl) (by decide) (by decide) (Nat.le_of_ble_eq_true rfl) (Nat.le_of_ble_eq_true rfl) (Nat.le_of_ble_eq_true rfl) dX11_init_45 (fun q18 H nq18 w cx => ?_)
  obtain ⟨G19, eG19⟩ : ∃ z, z = gNw G17 q18 12 6 := ⟨_, rfl⟩
  obtain ⟨M20, eM20⟩ : ∃ z, z = wZ M16 q18 := ⟨_, rfl⟩
  rw [← eG19] at cx
  rw [← eG19, ← eM20] at w
  have h := h q18 nq18 G19 eG19 M20 eM20
  have xG19 := ext_nw eG19 nq18
  have hKa0 := ext_K xG19 hLa0 hKa0
  have hLa0 := ext_L xG19 hLa0
  have hKa1 := ext_K xG19 hLa1 hKa1
  have hLa1 := ext_L xG19 hLa1
  have hKq2 := ext_K xG19 hLq2 hKq2
  have hLq2 := ext_L xG19 hLq2
  have hKq6 := ext_K xG19 hLq6 hKq6
  have hLq6 := ext_L xG19 hLq6
  have hKq10 := ext_K xG19 hLq10 hKq10
  have hLq10 := ext_L xG19 hLq10
  have hKq14 := ext_K xG19 hLq14 hKq14
  have hLq14 := ext_L xG19 hLq14
  have hext := ext_tr hext xG19
  have hLq18 := nw_Lq eG19
  have hKq18 := nw_Kq eG19
  refine r_putRF (k := 8) cx w tyX11 tyX11_ok nmX11 hLa0 hKa0 (by decide) rfl wk_X11_init_X11 (by decide) rfl hini rfl (tyX11_ok 8 (by decide)) rfl rfl sr_10_8 (ln_10 _ _ (by decide)) hLq18 (by rw [hKq18]; rfl) (List.mem_of_getElem? (i := 10) rfl) dX11_init_47 (fun H locs w cx => ?_)
  obtain ⟨G21, eG21⟩ : ∃ z, z = gSt G19 a0 8 q18 := ⟨_, rfl⟩
  rw [← eG21] at w cx
  have h := h G21 eG21
  have xG21 := ext_st eG21
  have hKa0 := ext_K xG21 hLa0 hKa0
  have hLa0 := ext_L xG21 hLa0
  have hKa1 := ext_K xG21 hLa1 hKa1
  have hLa1 := ext_L xG21 hLa1
  have hKq2 := ext_K xG21 hLq2 hKq2
  have hLq2 := ext_L xG21 hLq2
  have hKq6 := ext_K xG21 hLq6 hKq6
  have hLq6 := ext_L xG21 hLq6
  have hKq10 := ext_K xG21 hLq10 hKq10
  have hLq10 := ext_L xG21 hLq10
  have hKq14 := ext_K xG21 hLq14 hKq14
  have hLq14 := ext_L xG21 hLq14
  have hKq18 := ext_K xG21 hLq18 hKq18
  have hLq18 := ext_L xG21 hLq18
  have hext := ext_tr hext xG21
  refine lv_aload_n hx hb dX11_init_50 rfl (lv_at hl 0 rfl) ?_
  refine lv_bipush (v := (6 : Int32)) hx hb dX11_init_51 (by decide) ?_
  refine r_newI (N := 6) cx w (List.mem_of_getElem? (i := 5) rfl) (by decide) (by decide) (Nat.le_of_ble_eq_true rfl) (Nat.le_of_ble_eq_true rfl) (Nat.le_of_ble_eq_true rfl) dX11_init_53 (fun q22 H nq22 w cx => ?_)
  obtain ⟨G23, eG23⟩ : ∃ z, z = gNw G21 q22 12 6 := ⟨_, rfl⟩
  obtain ⟨M24, eM24⟩ : ∃ z, z = wZ M20 q22 := ⟨_, rfl⟩
  rw [← eG23] at cx
  rw [← eG23, ← eM24] at w
  have h := h q22 nq22 G23 eG23 M24 eM24
  have xG23 := ext_nw eG23 nq22
  have hKa0 := ext_K xG23 hLa0 hKa0
  have hLa0 := ext_L xG23 hLa0
  have hKa1 := ext_K xG23 hLa1 hKa1
  have hLa1 := ext_L xG23 hLa1
  have hKq2 := ext_K xG23 hLq2 hKq2
  have hLq2 := ext_L xG23 hLq2
  have hKq6 := ext_K xG23 hLq6 hKq6
  have hLq6 := ext_L xG23 hLq6
  have hKq10 := ext_K xG23 hLq10 hKq10
  have hLq10 := ext_L xG23 hLq10
  have hKq14 := ext_K xG23 hLq14 hKq14
  have hLq14 := ext_L xG23 hLq14
  have hKq18 := ext_K xG23 hLq18 hKq18
  have hLq18 := ext_L xG23 hLq18
  have hext := ext_tr hext xG23
  have hLq22 := nw_Lq eG23
  have hKq22 := nw_Kq eG23
  refine r_putRF (k := 9) cx w tyX11 tyX11_ok nmX11 hLa0 hKa0 (by decide) rfl wk_X11_init_X11 (by decide) rfl hini rfl (tyX11_ok 9 (by decide)) rfl rfl sr_10_9 (ln_10 _ _ (by decide)) hLq22 (by rw [hKq22]; rfl) (List.mem_of_getElem? (i := 11) rfl) dX11_init_55 (fun H locs w cx => ?_)
  obtain ⟨G25, eG25⟩ : ∃ z, z = gSt G23 a0 9 q22 := ⟨_, rfl⟩
  rw [← eG25] at w cx
  have h := h G25 eG25
  have xG25 := ext_st eG25
  have hKa0 := ext_K xG25 hLa0 hKa0
  have hLa0 := ext_L xG25 hLa0
  have hKa1 := ext_K xG25 hLa1 hKa1
  have hLa1 := ext_L xG25 hLa1
  have hKq2 := ext_K xG25 hLq2 hKq2
  have hLq2 := ext_L xG25 hLq2
  have hKq6 := ext_K xG25 hLq6 hKq6
  have hLq6 := ext_L xG25 hLq6
  have hKq10 := ext_K xG25 hLq10 hKq10
  have hLq10 := ext_L xG25 hLq10
  have hKq14 := ext_K xG25 hLq14 hKq14
  have hLq14 := ext_L xG25 hLq14
  have hKq18 := ext_K xG25 hLq18 hKq18
  have hLq18 := ext_L xG25 hLq18
  have hKq22 := ext_K xG25 hLq22 hKq22
  have hLq22 := ext_L xG25 hLq22
  have hext := ext_tr hext xG25
  refine lv_aload_n hx hb dX11_init_58 rfl (lv_at hl 0 rfl) ?_
  refine lv_bipush (v := (6 : Int32)) hx hb dX11_init_59 (by decide) ?_
  refine r_newI (N := 6) cx w (List.mem_of_getElem? (i := 5) rfl) (by decide) (by decide) (Nat.le_of_ble_eq_true rfl) (Nat.le_of_ble_eq_true rfl) (Nat.le_of_ble_eq_true rfl) dX11_init_61 (fun q26 H nq26 w cx => ?_)
  obtain ⟨G27, eG27⟩ : ∃ z, z = gNw G25 q26 12 6 := ⟨_, rfl⟩
  obtain ⟨M28, eM28⟩ : ∃ z, z = wZ M24 q26 := ⟨_, rfl⟩
  rw [← eG27] at cx
  rw [← eG27, ← eM28] at w
  have h := h q26 nq26 G27 eG27 M28 eM28
  have xG27 := ext_nw eG27 nq26
  have hKa0 := ext_K xG27 hLa0 hKa0
  have hLa0 := ext_L xG27 hLa0
  have hKa1 := ext_K xG27 hLa1 hKa1
  have hLa1 := ext_L xG27 hLa1
  have hKq2 := ext_K xG27 hLq2 hKq2
  have hLq2 := ext_L xG27 hLq2
  have hKq6 := ext_K xG27 hLq6 hKq6
  have hLq6 := ext_L xG27 hLq6
  have hKq10 := ext_K xG27 hLq10 hKq10
  have hLq10 := ext_L xG27 hLq10
  have hKq14 := ext_K xG27 hLq14 hKq14
  have hLq14 := ext_L xG27 hLq14
  have hKq18 := ext_K xG27 hLq18 hKq18
  have hLq18 := ext_L xG27 hLq18
  have hKq22 := ext_K xG27 hLq22 hKq22
  have hLq22 := ext_L xG27 hLq22
  have hext := ext_tr hext xG27
  have hLq26 := nw_Lq eG27
  have hKq26 := nw_Kq eG27
  refine r_putRF (k := 10) cx w tyX11 tyX11_ok nmX11 hLa0 hKa0 (by decide) rfl wk_X11_init_X11 (by decide) rfl hini rfl (tyX11_ok 10 (by decide)) rfl rfl sr_10_10 (ln_10 _ _ (by decide)) hLq26 (by rw [hKq26]; rfl) (List.mem_of_getElem? (i := 12) rfl) dX11_init_63 (fun H locs w cx => ?_)
  obtain ⟨G29, eG29⟩ : ∃ z, z = gSt G27 a0 10 q26 := ⟨_, rfl⟩
  rw [← eG29] at w cx
  have h := h G29 eG29
  have xG29 := ext_st eG29
  have hKa0 := ext_K xG29 hLa0 hKa0
  have hLa0 := ext_L xG29 hLa0
  have hKa1 := ext_K xG29 hLa1 hKa1
  have hLa1 := ext_L xG29 hLa1
  have hKq2 := ext_K xG29 hLq2 hKq2
  have hLq2 := ext_L xG29 hLq2
  have hKq6 := ext_K xG29 hLq6 hKq6
  have hLq6 := ext_L xG29 hLq6
  have hKq10 := ext_K xG29 hLq10 hKq10
  have hLq10 := ext_L xG29 hLq10
  have hKq14 := ext_K xG29 hLq14 hKq14
  have hLq14 := ext_L xG29 hLq14
  have hKq18 := ext_K xG29 hLq18 hKq18
  have hLq18 := ext_L xG29 hLq18
  have hKq22 := ext_K xG29 hLq22 hKq22
  have hLq22 := ext_L xG29 hLq22
  have hKq26 := ext_K xG29 hLq26 hKq26
  have hLq26 := ext_L xG29 hLq26
  have hext := ext_tr hext xG29
  refine lv_aload_n hx hb dX11_init_66 rfl (lv_at hl 0 rfl) ?_
  refine lv_bipush (v := (6 : Int32)) hx hb dX11_init_67 (by decide) ?_
  refine r_newI (N := 6) cx w (List.mem_of_getElem? (i := 5) rfl) (by decide) (by decide) (Nat.le_of_ble_eq_true rfl) (Nat.le_of_ble_eq_true rfl) (Nat.le_of_ble_eq_true rfl) dX11_init_69 (fun q30 H nq30 w cx => ?_)
  obtain ⟨G31, eG31⟩ : ∃ z, z = gNw G29 q30 12 6 := ⟨_, rfl⟩
  obtain ⟨M32, eM32⟩ : ∃ z, z = wZ M28 q30 := ⟨_, rfl⟩
  rw [← eG31] at cx
  rw [← eG31, ← eM32] at w
  have h := h q30 nq30 G31 eG31 M32 eM32
  have xG31 := ext_nw eG31 nq30
  have hKa0 := ext_K xG31 hLa0 hKa0
  have hLa0 := ext_L xG31 hLa0
  have hKa1 := ext_K xG31 hLa1 hKa1
  have hLa1 := ext_L xG31 hLa1
  have hKq2 := ext_K xG31 hLq2 hKq2
  have hLq2 := ext_L xG31 hLq2
  have hKq6 := ext_K xG31 hLq6 hKq6
  have hLq6 := ext_L xG31 hLq6
  have hKq10 := ext_K xG31 hLq10 hKq10
  have hLq10 := ext_L xG31 hLq10
  have hKq14 := ext_K xG31 hLq14 hKq14
  have hLq14 := ext_L xG31 hLq14
  have hKq18 := ext_K xG31 hLq18 hKq18
  have hLq18 := ext_L xG31 hLq18
  have hKq22 := ext_K xG31 hLq22 hKq22
  have hLq22 := ext_L xG31 hLq22
  have hKq26 := ext_K xG31 hLq26 hKq26
  have hLq26 := ext_L xG31 hLq26
  have hext := ext_tr hext xG31
  have hLq30 := nw_Lq eG31
  have hKq30 := nw_Kq eG31
  refine r_putRF (k := 11) cx w tyX11 tyX11_ok nmX11 hLa0 hKa0 (by decide) rfl wk_X11_init_X11 (by decide) rfl hini rfl (tyX11_ok 11 (by decide)) rfl rfl sr_10_11 (ln_10 _ _ (by decide)) hLq30 (by rw [hKq30]; rfl) (List.mem_of_getElem? (i := 13) rfl) dX11_init_71 (fun H locs w cx => ?_)
  obtain ⟨G33, eG33⟩ : ∃ z, z = gSt G31 a0 11 q30 := ⟨_, rfl⟩
  rw [← eG33] at w cx
  have h := h G33 eG33
  have xG33 := ext_st eG33
  have hKa0 := ext_K xG33 hLa0 hKa0
  have hLa0 := ext_L xG33 hLa0
  have hKa1 := ext_K xG33 hLa1 hKa1
  have hLa1 := ext_L xG33 hLa1
  have hKq2 := ext_K xG33 hLq2 hKq2
  have hLq2 := ext_L xG33 hLq2
  have hKq6 := ext_K xG33 hLq6 hKq6
  have hLq6 := ext_L xG33 hLq6
  have hKq10 := ext_K xG33 hLq10 hKq10
  have hLq10 := ext_L xG33 hLq10
  have hKq14 := ext_K xG33 hLq14 hKq14
  have hLq14 := ext_L xG33 hLq14
  have hKq18 := ext_K xG33 hLq18 hKq18
  have hLq18 := ext_L xG33 hLq18
  have hKq22 := ext_K xG33 hLq22 hKq22
  have hLq22 := ext_L xG33 hLq22
  have hKq26 := ext_K xG33 hLq26 hKq26
  have hLq26 := ext_L xG33 hLq26
  have hKq30 := ext_K xG33 hLq30 hKq30
  have hLq30 := ext_L xG33 hLq30
  have hext := ext_tr hext xG33
  refine lv_aload_n hx hb dX11_init_74 rfl (lv_at hl 0 rfl) ?_
  refine lv_sipush (v := (768 : Int32)) hx hb dX11_init_75 (by decide) ?_
  refine r_newI (N := 768) cx w (List.mem_of_getElem? (i := 5) rfl) (by decide) (by decide) (Nat.le_of_ble_eq_true rfl) (Nat.le_of_ble_eq_true rfl) (Nat.le_of_ble_eq_true rfl) dX11_init_78 (fun q34 H nq34 w cx => ?_)
  obtain ⟨G35, eG35⟩ : ∃ z, z = gNw G33 q34 12 768 := ⟨_, rfl⟩
  obtain ⟨M36, eM36⟩ : ∃ z, z = wZ M32 q34 := ⟨_, rfl⟩
  rw [← eG35] at cx
  rw [← eG35, ← eM36] at w
  have h := h q34 nq34 G35 eG35 M36 eM36
  have xG35 := ext_nw eG35 nq34
  have hKa0 := ext_K xG35 hLa0 hKa0
  have hLa0 := ext_L xG35 hLa0
  have hKa1 := ext_K xG35 hLa1 hKa1
  have hLa1 := ext_L xG35 hLa1
  have hKq2 := ext_K xG35 hLq2 hKq2
  have hLq2 := ext_L xG35 hLq2
  have hKq6 := ext_K xG35 hLq6 hKq6
  have hLq6 := ext_L xG35 hLq6
  have hKq10 := ext_K xG35 hLq10 hKq10
  have hLq10 := ext_L xG35 hLq10
  have hKq14 := ext_K xG35 hLq14 hKq14
  have hLq14 := ext_L xG35 hLq14
  have hKq18 := ext_K xG35 hLq18 hKq18
  have hLq18 := ext_L xG35 hLq18
  have hKq22 := ext_K xG35 hLq22 hKq22
  have hLq22 := ext_L xG35 hLq22
  have hKq26 := ext_K xG35 hLq26 hKq26
  have hLq26 := ext_L xG35 hLq26
  have hKq30 := ext_K xG35 hLq30 hKq30
  have hLq30 := ext_L xG35 hLq30
  have hext := ext_tr hext xG35
  have hLq34 := nw_Lq eG35
  have hKq34 := nw_Kq eG35
  refine r_putRF (k := 12) cx w tyX11 tyX11_ok nmX11 hLa0 hKa0 (by decide) rfl wk_X11_init_X11 (by decide) rfl hini rfl (tyX11_ok 12 (by decide)) rfl rfl sr_10_12 (ln_10 _ _ (by decide)) hLq34 (by rw [hKq34]; rfl) (List.mem_of_getElem? (i := 14) rfl) dX11_init_80 (fun H locs w cx => ?_)
  obtain ⟨G37, eG37⟩ : ∃ z, z = gSt G35 a0 12 q34 := ⟨_, rfl⟩
  rw [← eG37] at w cx
  have h := h G37 eG37
  have xG37 := ext_st eG37
  have hKa0 := ext_K xG37 hLa0 hKa0
  have hLa0 := ext_L xG37 hLa0
  have hKa1 := ext_K xG37 hLa1 hKa1
  have hLa1 := ext_L xG37 hLa1
  have hKq2 := ext_K xG37 hLq2 hKq2
  have hLq2 := ext_L xG37 hLq2
  have hKq6 := ext_K xG37 hLq6 hKq6
  have hLq6 := ext_L xG37 hLq6
  have hKq10 := ext_K xG37 hLq10 hKq10
  have hLq10 := ext_L xG37 hLq10
  have hKq14 := ext_K xG37 hLq14 hKq14
  have hLq14 := ext_L xG37 hLq14
  have hKq18 := ext_K xG37 hLq18 hKq18
  have hLq18 := ext_L xG37 hLq18
  have hKq22 := ext_K xG37 hLq22 hKq22
  have hLq22 := ext_L xG37 hLq22
  have hKq26 := ext_K xG37 hLq26 hKq26
  have hLq26 := ext_L xG37 hLq26
  have hKq30 := ext_K xG37 hLq30 hKq30
  have hLq30 := ext_L xG37 hLq30
  have hKq34 := ext_K xG37 hLq34 hKq34
  have hLq34 := ext_L xG37 hLq34
  have hext := ext_tr hext xG37
  refine lv_aload_n hx hb dX11_init_83 rfl (lv_at hl 0 rfl) ?_
  refine lv_sipush (v := (726 : Int32)) hx hb dX11_init_84 (by decide) ?_
  refine r_newI (N := 726) cx w (List.mem_of_getElem? (i := 5) rfl) (by decide) (by decide) (Nat.le_of_ble_eq_true rfl) (Nat.le_of_ble_eq_true rfl) (Nat.le_of_ble_eq_true rfl) dX11_init_87 (fun q38 H nq38 w cx => ?_)
  obtain ⟨G39, eG39⟩ : ∃ z, z = gNw G37 q38 12 726 := ⟨_, rfl⟩
  obtain ⟨M40, eM40⟩ : ∃ z, z = wZ M36 q38 := ⟨_, rfl⟩
  rw [← eG39] at cx
  rw [← eG39, ← eM40] at w
  have h := h q38 nq38 G39 eG39 M40 eM40
  have xG39 := ext_nw eG39 nq38
  have hKa0 := ext_K xG39 hLa0 hKa0
  have hLa0 := ext_L xG39 hLa0
  have hKa1 := ext_K xG39 hLa1 hKa1
  have hLa1 := ext_L xG39 hLa1
  have hKq2 := ext_K xG39 hLq2 hKq2
  have hLq2 := ext_L xG39 hLq2
  have hKq6 := ext_K xG39 hLq6 hKq6
  have hLq6 := ext_L xG39 hLq6
  have hKq10 := ext_K xG39 hLq10 hKq10
  have hLq10 := ext_L xG39 hLq10
  have hKq14 := ext_K xG39 hLq14 hKq14
  have hLq14 := ext_L xG39 hLq14
  have hKq18 := ext_K xG39 hLq18 hKq18
  have hLq18 := ext_L xG39 hLq18
  have hKq22 := ext_K xG39 hLq22 hKq22
  have hLq22 := ext_L xG39 hLq22
  have hKq26 := ext_K xG39 hLq26 hKq26
  have hLq26 := ext_L xG39 hLq26
  have hKq30 := ext_K xG39 hLq30 hKq30
  have hLq30 := ext_L xG39 hLq30
  have hKq34 := ext_K xG39 hLq34 hKq34
  have hLq34 := ext_L xG39 hLq34
  have hext := ext_tr hext xG39
  have hLq38 := nw_Lq eG39
  have hKq38 := nw_Kq eG39
  refine r_putRF (k := 13) cx w tyX11 tyX11_ok nmX11 hLa0 hKa0 (by decide) rfl wk_X11_init_X11 (by decide) rfl hini rfl (tyX11_ok 13 (by decide)) rfl rfl sr_10_13 (ln_10 _ _ (by decide)) hLq38 (by rw [hKq38]; rfl) (List.mem_of_getElem? (i := 15) rfl) dX11_init_89 (fun H locs w cx => ?_)
  obtain ⟨G41, eG41⟩ : ∃ z, z = gSt G39 a0 13 q38 := ⟨_, rfl⟩
  rw [← eG41] at w cx
  have h := h G41 eG41
  have xG41 := ext_st eG41
  have hKa0 := ext_K xG41 hLa0 hKa0
  have hLa0 := ext_L xG41 hLa0
  have hKa1 := ext_K xG41 hLa1 hKa1
  have hLa1 := ext_L xG41 hLa1
  have hKq2 := ext_K xG41 hLq2 hKq2
  have hLq2 := ext_L xG41 hLq2
  have hKq6 := ext_K xG41 hLq6 hKq6
  have hLq6 := ext_L xG41 hLq6
  have hKq10 := ext_K xG41 hLq10 hKq10
  have hLq10 := ext_L xG41 hLq10
  have hKq14 := ext_K xG41 hLq14 hKq14
  have hLq14 := ext_L xG41 hLq14
  have hKq18 := ext_K xG41 hLq18 hKq18
  have hLq18 := ext_L xG41 hLq18
  have hKq22 := ext_K xG41 hLq22 hKq22
  have hLq22 := ext_L xG41 hLq22
  have hKq26 := ext_K xG41 hLq26 hKq26
  have hLq26 := ext_L xG41 hLq26
  have hKq30 := ext_K xG41 hLq30 hKq30
  have hLq30 := ext_L xG41 hLq30
  have hKq34 := ext_K xG41 hLq34 hKq34
  have hLq34 := ext_L xG41 hLq34
  have hKq38 := ext_K xG41 hLq38 hKq38
  have hLq38 := ext_L xG41 hLq38
  have hext := ext_tr hext xG41
  refine lv_aload_n hx hb dX11_init_92 rfl (lv_at hl 0 rfl) ?_
  refine lv_sipush (v := (400 : Int32)) hx hb dX11_init_93 (by decide) ?_
  refine r_newI (N := 400) cx w (List.mem_of_getElem? (i := 5) rfl) (by decide) (by decide) (Nat.le_of_ble_eq_true rfl) (Nat.le_of_ble_eq_true rfl) (Nat.le_of_ble_eq_true rfl) dX11_init_96 (fun q42 H nq42 w cx => ?_)
  obtain ⟨G43, eG43⟩ : ∃ z, z = gNw G41 q42 12 400 := ⟨_, rfl⟩
  obtain ⟨M44, eM44⟩ : ∃ z, z = wZ M40 q42 := ⟨_, rfl⟩
  rw [← eG43] at cx
  rw [← eG43, ← eM44] at w
  have h := h q42 nq42 G43 eG43 M44 eM44
  have xG43 := ext_nw eG43 nq42
  have hKa0 := ext_K xG43 hLa0 hKa0
  have hLa0 := ext_L xG43 hLa0
  have hKa1 := ext_K xG43 hLa1 hKa1
  have hLa1 := ext_L xG43 hLa1
  have hKq2 := ext_K xG43 hLq2 hKq2
  have hLq2 := ext_L xG43 hLq2
  have hKq6 := ext_K xG43 hLq6 hKq6
  have hLq6 := ext_L xG43 hLq6
  have hKq10 := ext_K xG43 hLq10 hKq10
  have hLq10 := ext_L xG43 hLq10
  have hKq14 := ext_K xG43 hLq14 hKq14
  have hLq14 := ext_L xG43 hLq14
  have hKq18 := ext_K xG43 hLq18 hKq18
  have hLq18 := ext_L xG43 hLq18
  have hKq22 := ext_K xG43 hLq22 hKq22
  have hLq22 := ext_L xG43 hLq22
  have hKq26 := ext_K xG43 hLq26 hKq26
  have hLq26 := ext_L xG43 hLq26
  have hKq30 := ext_K xG43 hLq30 hKq30
  have hLq30 := ext_L xG43 hLq30
  have hKq34 := ext_K xG43 hLq34 hKq34
  have hLq34 := ext_L xG43 hLq34
  have hKq38 := ext_K xG43 hLq38 hKq38
  have hLq38 := ext_L xG43 hLq38
  have hext := ext_tr hext xG43
  have hLq42 := nw_Lq eG43
  have hKq42 := nw_Kq eG43
  refine r_putRF (k := 14) cx w tyX11 tyX11_ok nmX11 hLa0 hKa0 (by decide) rfl wk_X11_init_X11 (by decide) rfl hini rfl (tyX11_ok 14 (by decide)) rfl rfl sr_10_14 (ln_10 _ _ (by decide)) hLq42 (by rw [hKq42]; rfl) (List.mem_of_getElem? (i := 16) rfl) dX11_init_98 (fun H locs w cx => ?_)
  obtain ⟨G45, eG45⟩ : ∃ z, z = gSt G43 a0 14 q42 := ⟨_, rfl⟩
  rw [← eG45] at w cx
  have h := h G45 eG45
  have xG45 := ext_st eG45
  have hKa0 := ext_K xG45 hLa0 hKa0
  have hLa0 := ext_L xG45 hLa0
  have hKa1 := ext_K xG45 hLa1 hKa1
  have hLa1 := ext_L xG45 hLa1
  have hKq2 := ext_K xG45 hLq2 hKq2
  have hLq2 := ext_L xG45 hLq2
  have hKq6 := ext_K xG45 hLq6 hKq6
  have hLq6 := ext_L xG45 hLq6
  have hKq10 := ext_K xG45 hLq10 hKq10
  have hLq10 := ext_L xG45 hLq10
  have hKq14 := ext_K xG45 hLq14 hKq14
  have hLq14 := ext_L xG45 hLq14
  have hKq18 := ext_K xG45 hLq18 hKq18
  have hLq18 := ext_L xG45 hLq18
  have hKq22 := ext_K xG45 hLq22 hKq22
  have hLq22 := ext_L xG45 hLq22
  have hKq26 := ext_K xG45 hLq26 hKq26
  have hLq26 := ext_L xG45 hLq26
  have hKq30 := ext_K xG45 hLq30 hKq30
  have hLq30 := ext_L xG45 hLq30
  have hKq34 := ext_K xG45 hLq34 hKq34
  have hLq34 := ext_L xG45 hLq34
  have hKq38 := ext_K xG45 hLq38 hKq38
  have hLq38 := ext_L xG45 hLq38
  have hKq42 := ext_K xG45 hLq42 hKq42
  have hLq42 := ext_L xG45 hLq42
  have hext := ext_tr hext xG45
  exact r_vretN cx w h hext (Nat.le_of_ble_eq_true rfl) (Nat.le_of_ble_eq_true rfl) dX11_init_101
theorem wk_X12_init_X10 : ∀ w ∈ wsX100, w ∈ wsX12_init := by decide +kernel
theorem wk_X12_init_X11 : ∀ w ∈ wsX110, w ∈ wsX12_init := by decide +kernel
theorem wk_X12_init_X12 : ∀ w ∈ wsX120, w ∈ wsX12_init := by decide +kernel
abbrev rnX12_init : Room := { frames := 3, cells := 46, slots := 21699, locals := 104 }
def n_X12_init (G : gS) (M : mS) (a0 : Nat) (post : gS → mS → Prop) : Prop := ∀ q1, q1 ∉ gL G → ∀ G2, G2 = gNw G q1 12 2000 → ∀ M3, M3 = wZ M q1 → (∀ G4, G4 = gSt G2 a0 1 q1 → (∀ M5, M5 = wI M3 a0 3 (-1 : Int32) → (∀ q6, q6 ∉ gL G4 → ∀ G7, G7 = gNw G4 q6 12 401 → ∀ M8, M8 = wZ M5 q6 → (∀ G9, G9 = gSt G7 a0 4 q6 → (∀ q10, q10 ∉ gL G9 → ∀ G11, G11 = gNw G9 q10 12 401 → ∀ M12, M12 = wZ M8 q10 → (∀ G13, G13 = gSt G11 a0 5 q10 → (∀ q14, q14 ∉ gL G13 → ∀ G15, G15 = gNw G13 q14 12 401 → ∀ M16, M16 = wZ M12 q14 → (∀ G17, G17 = gSt G15 a0 6 q14 → (∀ q18, q18 ∉ gL G17 → ∀ G19, G19 = gNw G17 q18 12 401 → ∀ M20, M20 = wZ M16 q18 → (∀ G21, G21 = gSt G19 a0 7 q18 → (∀ q22, q22 ∉ gL G21 → ∀ G23, G23 = gNw G21 q22 12 401 → ∀ M24, M24 = wZ M20 q22 → (∀ G25, G25 = gSt G23 a0 8 q22 → (∀ q26, q26 ∉ gL G25 → ∀ G27, G27 = gNw G25 q26 9 0 → ∀ M28, M28 = wZ M24 q26 → (n_X10_init G27 M28 q26 (fun G29 M30 => ∀ G31, G31 = gSt G29 a0 11 q26 → (∃ q32, gP G31 a0 11 = some q32 ∧ (∀ G33, G33 = gSt G31 a0 12 q32 → (∀ q34, q34 ∉ gL G33 → ∀ G35, G35 = gNw G33 q34 10 0 → ∀ M36, M36 = wZ M30 q34 → (n_X11_init G35 M36 q34 a0 (fun G37 M38 => ∀ G39, G39 = gSt G37 a0 13 q34 → (∀ q40, q40 ∉ gL G39 → ∀ G41, G41 = gNw G39 q40 10 0 → ∀ M42, M42 = wZ M38 q40 → (n_X11_init G41 M42 q40 a0 (fun G43 M44 => ∀ G45, G45 = gSt G43 a0 14 q40 → (∃ q46, gP G45 a0 13 = some q46 ∧ (∃ M47, m_X11_begin G45 M44 q46 = some (M47, ()) ∧ (post G45 M47))))))))))))))))))))))))))
set_option maxHeartbeats 4000000 in
set_option maxRecDepth 100000 in
theorem kn_X12_init {l : Launch} {D : va_G} {cy : cyS} {G : gS} {M : mS} {post : gS → mS → Prop} {a0 : Nat} (hG : wt G) (hLa0 : a0 ∈ gL G) (hKa0 : gK G a0 = 11) (h : n_X12_init G M a0 post) : ctN l yX12_init wsX12_init rnX12_init D cy G M [.ref a0] 46 21699 post := by
  unfold n_X12_init at h
  refine ctN_of (cc := cX12_init) (nL := 1) (lv := [(0, .ref a0)]) hG (by decide) rfl (Nat.le_of_ble_eq_true rfl) rfl ?_
  intro p e s m args below meth c sz ls hini cx w hl
  obtain ⟨hx, hb, hml, hown, hts, hr, hlocks, hK, hA, -, hsx⟩ := id cx
  have hini : meth.name = "<init>" := hini
  have hext := ext_rf (G := G)
  refine lv_aload_n hx hb dX12_init_0 rfl (lv_at hl 0 rfl) ?_
  refine W.objInit hx hb hown (hts (.methodLink RX12 1 objectInit) (List.mem_of_getElem? (i := 1) rfl)) (hts (.instanceMethod objectInit) (List.mem_of_getElem? (i := 2) rfl)) (hts _ (List.mem_of_getElem? (i := 3) rfl)) rfl (by rw [hml]; exact hl.1) rfl dX12_init_1 (Nat.le_of_ble_eq_true rfl) (Nat.le_of_ble_eq_true rfl) ?_
  refine W.eq (g2 := F0 m 4 ls []) rfl ?_
  refine lv_aload_n hx hb dX12_init_4 rfl (lv_at hl 0 rfl) ?_
  refine lv_sipush (v := (2000 : Int32)) hx hb dX12_init_5 (by decide) ?_
  refine r_newI (N := 2000) cx w (List.mem_of_getElem? (i := 4) rfl) (by decide) (by decide) (Nat.le_of_ble_eq_true rfl) (Nat.le_of_ble_eq_true rfl) (Nat.le_of_ble_eq_true rfl) dX12_init_8 (fun q1 H nq1 w cx => ?_)
  obtain ⟨G2, eG2⟩ : ∃ z, z = gNw G q1 12 2000 := ⟨_, rfl⟩
  obtain ⟨M3, eM3⟩ : ∃ z, z = wZ M q1 := ⟨_, rfl⟩
  rw [← eG2] at cx
  rw [← eG2, ← eM3] at w
  have h := h q1 nq1 G2 eG2 M3 eM3
  have xG2 := ext_nw eG2 nq1
  have hKa0 := ext_K xG2 hLa0 hKa0
  have hLa0 := ext_L xG2 hLa0
  have hext := ext_tr hext xG2
  have hLq1 := nw_Lq eG2
  have hKq1 := nw_Kq eG2
  refine r_putRF (k := 1) cx w tyX12 tyX12_ok nmX12 hLa0 hKa0 (by decide) rfl wk_X12_init_X12 (by decide) rfl hini rfl (tyX12_ok 1 (by decide)) rfl rfl sr_11_1 (ln_11 _ _ (by decide)) hLq1 (by rw [hKq1]; rfl) (List.mem_of_getElem? (i := 5) rfl) dX12_init_10 (fun H locs w cx => ?_)
  obtain ⟨G4, eG4⟩ : ∃ z, z = gSt G2 a0 1 q1 := ⟨_, rfl⟩
  rw [← eG4] at w cx
  have h := h G4 eG4
  have xG4 := ext_st eG4
  have hKa0 := ext_K xG4 hLa0 hKa0
  have hLa0 := ext_L xG4 hLa0
  have hKq1 := ext_K xG4 hLq1 hKq1
  have hLq1 := ext_L xG4 hLq1
  have hext := ext_tr hext xG4
  refine lv_aload_n hx hb dX12_init_13 rfl (lv_at hl 0 rfl) ?_
  refine lv_iconst (v := (-1 : Int32)) hx hb dX12_init_14 (by decide) ?_
  obtain ⟨M5, eM5⟩ : ∃ z, z = wI M3 a0 3 (-1 : Int32) := ⟨_, rfl⟩
  have h := h M5 eM5
  refine r_putI (k := 3) (ty := .int) cx w tyX12 tyX12_ok nmX12 hLa0 hKa0 (by decide) rfl wk_X12_init_X12 (by decide) rfl rfl rfl rfl st_11_3 (ln_11 _ _ (by decide)) (List.mem_of_getElem? (i := 6) rfl) dX12_init_15 eM5 (fun H locs w => ?_)
  refine lv_aload_n hx hb dX12_init_18 rfl (lv_at hl 0 rfl) ?_
  refine lv_sipush (v := (401 : Int32)) hx hb dX12_init_19 (by decide) ?_
  refine r_newI (N := 401) cx w (List.mem_of_getElem? (i := 4) rfl) (by decide) (by decide) (Nat.le_of_ble_eq_true rfl) (Nat.le_of_ble_eq_true rfl) (Nat.le_of_ble_eq_true rfl) dX12_init_22 (fun q6 H nq6 w cx => ?_)
  obtain ⟨G7, eG7⟩ : ∃ z, z = gNw G4 q6 12 401 := ⟨_, rfl⟩
  obtain ⟨M8, eM8⟩ : ∃ z, z = wZ M5 q6 := ⟨_, rfl⟩
  rw [← eG7] at cx
  rw [← eG7, ← eM8] at w
  have h := h q6 nq6 G7 eG7 M8 eM8
  have xG7 := ext_nw eG7 nq6
  have hKa0 := ext_K xG7 hLa0 hKa0
  have hLa0 := ext_L xG7 hLa0
  have hKq1 := ext_K xG7 hLq1 hKq1
  have hLq1 := ext_L xG7 hLq1
  have hext := ext_tr hext xG7
  have hLq6 := nw_Lq eG7
  have hKq6 := nw_Kq eG7
  refine r_putRF (k := 4) cx w tyX12 tyX12_ok nmX12 hLa0 hKa0 (by decide) rfl wk_X12_init_X12 (by decide) rfl hini rfl (tyX12_ok 4 (by decide)) rfl rfl sr_11_4 (ln_11 _ _ (by decide)) hLq6 (by rw [hKq6]; rfl) (List.mem_of_getElem? (i := 7) rfl) dX12_init_24 (fun H locs w cx => ?_)
  obtain ⟨G9, eG9⟩ : ∃ z, z = gSt G7 a0 4 q6 := ⟨_, rfl⟩
  rw [← eG9] at w cx
  have h := h G9 eG9
  have xG9 := ext_st eG9
  have hKa0 := ext_K xG9 hLa0 hKa0
  have hLa0 := ext_L xG9 hLa0
  have hKq1 := ext_K xG9 hLq1 hKq1
  have hLq1 := ext_L xG9 hLq1
  have hKq6 := ext_K xG9 hLq6 hKq6
  have hLq6 := ext_L xG9 hLq6
  have hext := ext_tr hext xG9
  refine lv_aload_n hx hb dX12_init_27 rfl (lv_at hl 0 rfl) ?_
  refine lv_sipush (v := (401 : Int32)) hx hb dX12_init_28 (by decide) ?_
  refine r_newI (N := 401) cx w (List.mem_of_getElem? (i := 4) rfl) (by decide) (by decide) (Nat.le_of_ble_eq_true rfl) (Nat.le_of_ble_eq_true rfl) (Nat.le_of_ble_eq_true rfl) dX12_init_31 (fun q10 H nq10 w cx => ?_)
  obtain ⟨G11, eG11⟩ : ∃ z, z = gNw G9 q10 12 401 := ⟨_, rfl⟩
  obtain ⟨M12, eM12⟩ : ∃ z, z = wZ M8 q10 := ⟨_, rfl⟩
  rw [← eG11] at cx
  rw [← eG11, ← eM12] at w
  have h := h q10 nq10 G11 eG11 M12 eM12
  have xG11 := ext_nw eG11 nq10
  have hKa0 := ext_K xG11 hLa0 hKa0
  have hLa0 := ext_L xG11 hLa0
  have hKq1 := ext_K xG11 hLq1 hKq1
  have hLq1 := ext_L xG11 hLq1
  have hKq6 := ext_K xG11 hLq6 hKq6
  have hLq6 := ext_L xG11 hLq6
  have hext := ext_tr hext xG11
  have hLq10 := nw_Lq eG11
  have hKq10 := nw_Kq eG11
  refine r_putRF (k := 5) cx w tyX12 tyX12_ok nmX12 hLa0 hKa0 (by decide) rfl wk_X12_init_X12 (by decide) rfl hini rfl (tyX12_ok 5 (by decide)) rfl rfl sr_11_5 (ln_11 _ _ (by decide)) hLq10 (by rw [hKq10]; rfl) (List.mem_of_getElem? (i := 8) rfl) dX12_init_33 (fun H locs w cx => ?_)
  obtain ⟨G13, eG13⟩ : ∃ z, z = gSt G11 a0 5 q10 := ⟨_, rfl⟩
  rw [← eG13] at w cx
  have h := h G13 eG13
  have xG13 := ext_st eG13
  have hKa0 := ext_K xG13 hLa0 hKa0
  have hLa0 := ext_L xG13 hLa0
  have hKq1 := ext_K xG13 hLq1 hKq1
  have hLq1 := ext_L xG13 hLq1
  have hKq6 := ext_K xG13 hLq6 hKq6
  have hLq6 := ext_L xG13 hLq6
  have hKq10 := ext_K xG13 hLq10 hKq10
  have hLq10 := ext_L xG13 hLq10
  have hext := ext_tr hext xG13
  refine lv_aload_n hx hb dX12_init_36 rfl (lv_at hl 0 rfl) ?_
  refine lv_sipush (v := (401 : Int32)) hx hb dX12_init_37 (by decide) ?_
  refine r_newI (N := 401) cx w (List.mem_of_getElem? (i := 4) rfl) (by decide) (by decide) (Nat.le_of_ble_eq_true rfl) (Nat.le_of_ble_eq_true rfl) (Nat.le_of_ble_eq_true rfl) dX12_init_40 (fun q14 H nq14 w cx => ?_)
  obtain ⟨G15, eG15⟩ : ∃ z, z = gNw G13 q14 12 401 := ⟨_, rfl⟩
  obtain ⟨M16, eM16⟩ : ∃ z, z = wZ M12 q14 := ⟨_, rfl⟩
  rw [← eG15] at cx
  rw [← eG15, ← eM16] at w
  have h := h q14 nq14 G15 eG15 M16 eM16
  have xG15 := ext_nw eG15 nq14
  have hKa0 := ext_K xG15 hLa0 hKa0
  have hLa0 := ext_L xG15 hLa0
  have hKq1 := ext_K xG15 hLq1 hKq1
  have hLq1 := ext_L xG15 hLq1
  have hKq6 := ext_K xG15 hLq6 hKq6
  have hLq6 := ext_L xG15 hLq6
  have hKq10 := ext_K xG15 hLq10 hKq10
  have hLq10 := ext_L xG15 hLq10
  have hext := ext_tr hext xG15
  have hLq14 := nw_Lq eG15
  have hKq14 := nw_Kq eG15
  refine r_putRF (k := 6) cx w tyX12 tyX12_ok nmX12 hLa0 hKa0 (by decide) rfl wk_X12_init_X12 (by decide) rfl hini rfl (tyX12_ok 6 (by decide)) rfl rfl sr_11_6 (ln_11 _ _ (by decide)) hLq14 (by rw [hKq14]; rfl) (List.mem_of_getElem? (i := 9) rfl) dX12_init_42 (fun H locs w cx => ?_)
  obtain ⟨G17, eG17⟩ : ∃ z, z = gSt G15 a0 6 q14 := ⟨_, rfl⟩
  rw [← eG17] at w cx
  have h := h G17 eG17
  have xG17 := ext_st eG17
  have hKa0 := ext_K xG17 hLa0 hKa0
  have hLa0 := ext_L xG17 hLa0
  have hKq1 := ext_K xG17 hLq1 hKq1
  have hLq1 := ext_L xG17 hLq1
  have hKq6 := ext_K xG17 hLq6 hKq6
  have hLq6 := ext_L xG17 hLq6
  have hKq10 := ext_K xG17 hLq10 hKq10
  have hLq10 := ext_L xG17 hLq10
  have hKq14 := ext_K xG17 hLq14 hKq14
  have hLq14 := ext_L xG17 hLq14
  have hext := ext_tr hext xG17
  refine lv_aload_n hx hb dX12_init_45 rfl (lv_at hl 0 rfl) ?_
  refine lv_sipush (v := (401 : Int32)) hx hb dX12_init_46 (by decide) ?_
  refine r_newI (N := 401) cx w (List.mem_of_getElem? (i := 4) rfl) (by decide) (by decide) (Nat.le_of_ble_eq_true rfl) (Nat.le_of_ble_eq_true rfl) (Nat.le_of_ble_eq_true rfl) dX12_init_49 (fun q18 H nq18 w cx => ?_)
  obtain ⟨G19, eG19⟩ : ∃ z, z = gNw G17 q18 12 401 := ⟨_, rfl⟩
  obtain ⟨M20, eM20⟩ : ∃ z, z = wZ M16 q18 := ⟨_, rfl⟩
  rw [← eG19] at cx
  rw [← eG19, ← eM20] at w
  have h := h q18 nq18 G19 eG19 M20 eM20
  have xG19 := ext_nw eG19 nq18
  have hKa0 := ext_K xG19 hLa0 hKa0
  have hLa0 := ext_L xG19 hLa0
  have hKq1 := ext_K xG19 hLq1 hKq1
  have hLq1 := ext_L xG19 hLq1
  have hKq6 := ext_K xG19 hLq6 hKq6
  have hLq6 := ext_L xG19 hLq6
  have hKq10 := ext_K xG19 hLq10 hKq10
  have hLq10 := ext_L xG19 hLq10
  have hKq14 := ext_K xG19 hLq14 hKq14
  have hLq14 := ext_L xG19 hLq14
  have hext := ext_tr hext xG19
  have hLq18 := nw_Lq eG19
  have hKq18 := nw_Kq eG19
  refine r_putRF (k := 7) cx w tyX12 tyX12_ok nmX12 hLa0 hKa0 (by decide) rfl wk_X12_init_X12 (by decide) rfl hini rfl (tyX12_ok 7 (by decide)) rfl rfl sr_11_7 (ln_11 _ _ (by decide)) hLq18 (by rw [hKq18]; rfl) (List.mem_of_getElem? (i := 10) rfl) dX12_init_51 (fun H locs w cx => ?_)
  obtain ⟨G21, eG21⟩ : ∃ z, z = gSt G19 a0 7 q18 := ⟨_, rfl⟩
  rw [← eG21] at w cx
  have h := h G21 eG21
  have xG21 := ext_st eG21
  have hKa0 := ext_K xG21 hLa0 hKa0
  have hLa0 := ext_L xG21 hLa0
  have hKq1 := ext_K xG21 hLq1 hKq1
  have hLq1 := ext_L xG21 hLq1
  have hKq6 := ext_K xG21 hLq6 hKq6
  have hLq6 := ext_L xG21 hLq6
  have hKq10 := ext_K xG21 hLq10 hKq10
  have hLq10 := ext_L xG21 hLq10
  have hKq14 := ext_K xG21 hLq14 hKq14
  have hLq14 := ext_L xG21 hLq14
  have hKq18 := ext_K xG21 hLq18 hKq18
  have hLq18 := ext_L xG21 hLq18
  have hext := ext_tr hext xG21
  refine lv_aload_n hx hb dX12_init_54 rfl (lv_at hl 0 rfl) ?_
  refine lv_sipush (v := (401 : Int32)) hx hb dX12_init_55 (by decide) ?_
  refine r_newI (N := 401) cx w (List.mem_of_getElem? (i := 4) rfl) (by decide) (by decide) (Nat.le_of_ble_eq_true rfl) (Nat.le_of_ble_eq_true rfl) (Nat.le_of_ble_eq_true rfl) dX12_init_58 (fun q22 H nq22 w cx => ?_)
  obtain ⟨G23, eG23⟩ : ∃ z, z = gNw G21 q22 12 401 := ⟨_, rfl⟩
  obtain ⟨M24, eM24⟩ : ∃ z, z = wZ M20 q22 := ⟨_, rfl⟩
  rw [← eG23] at cx
  rw [← eG23, ← eM24] at w
  have h := h q22 nq22 G23 eG23 M24 eM24
  have xG23 := ext_nw eG23 nq22
  have hKa0 := ext_K xG23 hLa0 hKa0
  have hLa0 := ext_L xG23 hLa0
  have hKq1 := ext_K xG23 hLq1 hKq1
  have hLq1 := ext_L xG23 hLq1
  have hKq6 := ext_K xG23 hLq6 hKq6
  have hLq6 := ext_L xG23 hLq6
  have hKq10 := ext_K xG23 hLq10 hKq10
  have hLq10 := ext_L xG23 hLq10
  have hKq14 := ext_K xG23 hLq14 hKq14
  have hLq14 := ext_L xG23 hLq14
  have hKq18 := ext_K xG23 hLq18 hKq18
  have hLq18 := ext_L xG23 hLq18
  have hext := ext_tr hext xG23
  have hLq22 := nw_Lq eG23
  have hKq22 := nw_Kq eG23
  refine r_putRF (k := 8) cx w tyX12 tyX12_ok nmX12 hLa0 hKa0 (by decide) rfl wk_X12_init_X12 (by decide) rfl hini rfl (tyX12_ok 8 (by decide)) rfl rfl sr_11_8 (ln_11 _ _ (by decide)) hLq22 (by rw [hKq22]; rfl) (List.mem_of_getElem? (i := 11) rfl) dX12_init_60 (fun H locs w cx => ?_)
  obtain ⟨G25, eG25⟩ : ∃ z, z = gSt G23 a0 8 q22 := ⟨_, rfl⟩
  rw [← eG25] at w cx
  have h := h G25 eG25
  have xG25 := ext_st eG25
  have hKa0 := ext_K xG25 hLa0 hKa0
  have hLa0 := ext_L xG25 hLa0
  have hKq1 := ext_K xG25 hLq1 hKq1
  have hLq1 := ext_L xG25 hLq1
  have hKq6 := ext_K xG25 hLq6 hKq6
  have hLq6 := ext_L xG25 hLq6
  have hKq10 := ext_K xG25 hLq10 hKq10
  have hLq10 := ext_L xG25 hLq10
  have hKq14 := ext_K xG25 hLq14 hKq14
  have hLq14 := ext_L xG25 hLq14
  have hKq18 := ext_K xG25 hLq18 hKq18
  have hLq18 := ext_L xG25 hLq18
  have hKq22 := ext_K xG25 hLq22 hKq22
  have hLq22 := ext_L xG25 hLq22
  have hext := ext_tr hext xG25
  refine lv_aload_n hx hb dX12_init_63 rfl (lv_at hl 0 rfl) ?_
  refine r_newO cx w tyX10 tyX10_ok rfl (by decide) wk_X12_init_X10 (List.mem_of_getElem? (i := 12) rfl) (List.mem_of_getElem? (i := 13) rfl) (List.mem_of_getElem? (i := 14) rfl) df_9 (Nat.le_of_ble_eq_true rfl) (Nat.le_of_ble_eq_true rfl) dX12_init_64 (fun q26 H nq26 w cx => ?_)
  obtain ⟨G27, eG27⟩ : ∃ z, z = gNw G25 q26 9 0 := ⟨_, rfl⟩
  obtain ⟨M28, eM28⟩ : ∃ z, z = wZ M24 q26 := ⟨_, rfl⟩
  rw [← eG27] at cx
  rw [← eG27, ← eM28] at w
  have h := h q26 nq26 G27 eG27 M28 eM28
  have xG27 := ext_nw eG27 nq26
  have hKa0 := ext_K xG27 hLa0 hKa0
  have hLa0 := ext_L xG27 hLa0
  have hKq1 := ext_K xG27 hLq1 hKq1
  have hLq1 := ext_L xG27 hLq1
  have hKq6 := ext_K xG27 hLq6 hKq6
  have hLq6 := ext_L xG27 hLq6
  have hKq10 := ext_K xG27 hLq10 hKq10
  have hLq10 := ext_L xG27 hLq10
  have hKq14 := ext_K xG27 hLq14 hKq14
  have hLq14 := ext_L xG27 hLq14
  have hKq18 := ext_K xG27 hLq18 hKq18
  have hLq18 := ext_L xG27 hLq18
  have hKq22 := ext_K xG27 hLq22 hKq22
  have hLq22 := ext_L xG27 hLq22
  have hext := ext_tr hext xG27
  have hLq26 := nw_Lq eG27
  have hKq26 := nw_Kq eG27
  refine lv_dup hx hb dX12_init_67 rfl ?_
  refine r_callNN (As := []) (rest := [.ref q26, .ref a0]) cx w ⟨Nat.le_of_ble_eq_true rfl, Nat.le_of_ble_eq_true rfl⟩ hl.1 (kn_X10_init (cX_wt cx) hLq26 hKq26 h) ⟨va_cnB 0 hts gX12_init_X10_init_n34 rfl rfl rfl (nwM cx (q := (RX12, 34, yX10_init, "FlagAntsModel")) (List.mem_of_getElem? (i := 6) rfl)) (hts _ (List.mem_of_getElem? (i := 14) rfl)) (by decide +kernel) ⟨Nat.le_of_ble_eq_true rfl, Nat.le_of_ble_eq_true rfl⟩, rfl, hts _ (List.mem_of_getElem? (i := 22) rfl)⟩ rfl rfl (Nat.le_of_ble_eq_true rfl) dX12_init_68 (fun G29 M30 H locs h xG29 cx w => ?_)
  have hKa0 := ext_K xG29 hLa0 hKa0
  have hLa0 := ext_L xG29 hLa0
  have hKq1 := ext_K xG29 hLq1 hKq1
  have hLq1 := ext_L xG29 hLq1
  have hKq6 := ext_K xG29 hLq6 hKq6
  have hLq6 := ext_L xG29 hLq6
  have hKq10 := ext_K xG29 hLq10 hKq10
  have hLq10 := ext_L xG29 hLq10
  have hKq14 := ext_K xG29 hLq14 hKq14
  have hLq14 := ext_L xG29 hLq14
  have hKq18 := ext_K xG29 hLq18 hKq18
  have hLq18 := ext_L xG29 hLq18
  have hKq22 := ext_K xG29 hLq22 hKq22
  have hLq22 := ext_L xG29 hLq22
  have hKq26 := ext_K xG29 hLq26 hKq26
  have hLq26 := ext_L xG29 hLq26
  have hext := ext_tr hext xG29
  refine r_putR (k := 11) cx w tyX12 tyX12_ok nmX12 hLa0 hKa0 (by decide) rfl wk_X12_init_X12 (by decide) rfl (tyX12_ok 11 (by decide)) rfl rfl sr_11_11 (ln_11 _ _ (by decide)) hLq26 (by rw [hKq26]; rfl) (List.mem_of_getElem? (i := 15) rfl) dX12_init_71 (fun H locs w cx => ?_)
  obtain ⟨G31, eG31⟩ : ∃ z, z = gSt G29 a0 11 q26 := ⟨_, rfl⟩
  rw [← eG31] at w cx
  have h := h G31 eG31
  have xG31 := ext_st eG31
  have hKa0 := ext_K xG31 hLa0 hKa0
  have hLa0 := ext_L xG31 hLa0
  have hKq1 := ext_K xG31 hLq1 hKq1
  have hLq1 := ext_L xG31 hLq1
  have hKq6 := ext_K xG31 hLq6 hKq6
  have hLq6 := ext_L xG31 hLq6
  have hKq10 := ext_K xG31 hLq10 hKq10
  have hLq10 := ext_L xG31 hLq10
  have hKq14 := ext_K xG31 hLq14 hKq14
  have hLq14 := ext_L xG31 hLq14
  have hKq18 := ext_K xG31 hLq18 hKq18
  have hLq18 := ext_L xG31 hLq18
  have hKq22 := ext_K xG31 hLq22 hKq22
  have hLq22 := ext_L xG31 hLq22
  have hKq26 := ext_K xG31 hLq26 hKq26
  have hLq26 := ext_L xG31 hLq26
  have hext := ext_tr hext xG31
  refine lv_aload_n hx hb dX12_init_74 rfl (lv_at hl 0 rfl) ?_
  refine lv_aload_n hx hb dX12_init_75 rfl (lv_at hl 0 rfl) ?_
  obtain ⟨q32, eq32, h⟩ := h
  obtain ⟨hLq32, hKq32⟩ := wt_q (cX_wt cx) hLa0 hKa0 eq32
  have hKq32 : gK G31 q32 = 9 := hKq32
  refine r_getR (k := 11) cx w hLa0 hKa0 (by decide) rfl wk_X12_init_X12 (by decide) rfl eq32 (List.mem_of_getElem? (i := 15) rfl) dX12_init_76 ?_
  refine r_putR (k := 12) cx w tyX12 tyX12_ok nmX12 hLa0 hKa0 (by decide) rfl wk_X12_init_X12 (by decide) rfl (tyX12_ok 12 (by decide)) rfl rfl sr_11_12 (ln_11 _ _ (by decide)) hLq32 (by rw [hKq32]; rfl) (List.mem_of_getElem? (i := 16) rfl) dX12_init_79 (fun H locs w cx => ?_)
  obtain ⟨G33, eG33⟩ : ∃ z, z = gSt G31 a0 12 q32 := ⟨_, rfl⟩
  rw [← eG33] at w cx
  have h := h G33 eG33
  have xG33 := ext_st eG33
  have hKa0 := ext_K xG33 hLa0 hKa0
  have hLa0 := ext_L xG33 hLa0
  have hKq1 := ext_K xG33 hLq1 hKq1
  have hLq1 := ext_L xG33 hLq1
  have hKq6 := ext_K xG33 hLq6 hKq6
  have hLq6 := ext_L xG33 hLq6
  have hKq10 := ext_K xG33 hLq10 hKq10
  have hLq10 := ext_L xG33 hLq10
  have hKq14 := ext_K xG33 hLq14 hKq14
  have hLq14 := ext_L xG33 hLq14
  have hKq18 := ext_K xG33 hLq18 hKq18
  have hLq18 := ext_L xG33 hLq18
  have hKq22 := ext_K xG33 hLq22 hKq22
  have hLq22 := ext_L xG33 hLq22
  have hKq26 := ext_K xG33 hLq26 hKq26
  have hLq26 := ext_L xG33 hLq26
  have hKq32 := ext_K xG33 hLq32 hKq32
  have hLq32 := ext_L xG33 hLq32
  have hext := ext_tr hext xG33
  refine lv_aload_n hx hb dX12_init_82 rfl (lv_at hl 0 rfl) ?_
  refine r_newO cx w tyX11 tyX11_ok rfl (by decide) wk_X12_init_X11 (List.mem_of_getElem? (i := 17) rfl) (List.mem_of_getElem? (i := 18) rfl) (List.mem_of_getElem? (i := 19) rfl) df_10 (Nat.le_of_ble_eq_true rfl) (Nat.le_of_ble_eq_true rfl) dX12_init_83 (fun q34 H nq34 w cx => ?_)
  obtain ⟨G35, eG35⟩ : ∃ z, z = gNw G33 q34 10 0 := ⟨_, rfl⟩
  obtain ⟨M36, eM36⟩ : ∃ z, z = wZ M30 q34 := ⟨_, rfl⟩
  rw [← eG35] at cx
  rw [← eG35, ← eM36] at w
  have h := h q34 nq34 G35 eG35 M36 eM36
  have xG35 := ext_nw eG35 nq34
  have hKa0 := ext_K xG35 hLa0 hKa0
  have hLa0 := ext_L xG35 hLa0
  have hKq1 := ext_K xG35 hLq1 hKq1
  have hLq1 := ext_L xG35 hLq1
  have hKq6 := ext_K xG35 hLq6 hKq6
  have hLq6 := ext_L xG35 hLq6
  have hKq10 := ext_K xG35 hLq10 hKq10
  have hLq10 := ext_L xG35 hLq10
  have hKq14 := ext_K xG35 hLq14 hKq14
  have hLq14 := ext_L xG35 hLq14
  have hKq18 := ext_K xG35 hLq18 hKq18
  have hLq18 := ext_L xG35 hLq18
  have hKq22 := ext_K xG35 hLq22 hKq22
  have hLq22 := ext_L xG35 hLq22
  have hKq26 := ext_K xG35 hLq26 hKq26
  have hLq26 := ext_L xG35 hLq26
  have hKq32 := ext_K xG35 hLq32 hKq32
  have hLq32 := ext_L xG35 hLq32
  have hext := ext_tr hext xG35
  have hLq34 := nw_Lq eG35
  have hKq34 := nw_Kq eG35
  refine lv_dup hx hb dX12_init_86 rfl ?_
  refine lv_aload_n hx hb dX12_init_87 rfl (lv_at hl 0 rfl) ?_
  refine r_callNN (As := [.ref a0]) (rest := [.ref q34, .ref a0]) cx w ⟨Nat.le_of_ble_eq_true rfl, Nat.le_of_ble_eq_true rfl⟩ hl.1 (kn_X11_init (cX_wt cx) hLq34 hKq34 hLa0 hKa0 h) ⟨va_cnB 1 hts gX12_init_X11_init_n44 rfl rfl rfl (nwM cx (q := (RX12, 44, yX11_init, "FlagAntsModel")) (List.mem_of_getElem? (i := 7) rfl)) (hts _ (List.mem_of_getElem? (i := 19) rfl)) (by decide +kernel) ⟨Nat.le_of_ble_eq_true rfl, Nat.le_of_ble_eq_true rfl⟩, rfl, hts _ (List.mem_of_getElem? (i := 40) rfl)⟩ rfl rfl (Nat.le_of_ble_eq_true rfl) dX12_init_88 (fun G37 M38 H locs h xG37 cx w => ?_)
  have hKa0 := ext_K xG37 hLa0 hKa0
  have hLa0 := ext_L xG37 hLa0
  have hKq1 := ext_K xG37 hLq1 hKq1
  have hLq1 := ext_L xG37 hLq1
  have hKq6 := ext_K xG37 hLq6 hKq6
  have hLq6 := ext_L xG37 hLq6
  have hKq10 := ext_K xG37 hLq10 hKq10
  have hLq10 := ext_L xG37 hLq10
  have hKq14 := ext_K xG37 hLq14 hKq14
  have hLq14 := ext_L xG37 hLq14
  have hKq18 := ext_K xG37 hLq18 hKq18
  have hLq18 := ext_L xG37 hLq18
  have hKq22 := ext_K xG37 hLq22 hKq22
  have hLq22 := ext_L xG37 hLq22
  have hKq26 := ext_K xG37 hLq26 hKq26
  have hLq26 := ext_L xG37 hLq26
  have hKq32 := ext_K xG37 hLq32 hKq32
  have hLq32 := ext_L xG37 hLq32
  have hKq34 := ext_K xG37 hLq34 hKq34
  have hLq34 := ext_L xG37 hLq34
  have hext := ext_tr hext xG37
  refine r_putRF (k := 13) cx w tyX12 tyX12_ok nmX12 hLa0 hKa0 (by decide) rfl wk_X12_init_X12 (by decide) rfl hini rfl (tyX12_ok 13 (by decide)) rfl rfl sr_11_13 (ln_11 _ _ (by decide)) hLq34 (by rw [hKq34]; rfl) (List.mem_of_getElem? (i := 20) rfl) dX12_init_91 (fun H locs w cx => ?_)
  obtain ⟨G39, eG39⟩ : ∃ z, z = gSt G37 a0 13 q34 := ⟨_, rfl⟩
  rw [← eG39] at w cx
  have h := h G39 eG39
  have xG39 := ext_st eG39
  have hKa0 := ext_K xG39 hLa0 hKa0
  have hLa0 := ext_L xG39 hLa0
  have hKq1 := ext_K xG39 hLq1 hKq1
  have hLq1 := ext_L xG39 hLq1
  have hKq6 := ext_K xG39 hLq6 hKq6
  have hLq6 := ext_L xG39 hLq6
  have hKq10 := ext_K xG39 hLq10 hKq10
  have hLq10 := ext_L xG39 hLq10
  have hKq14 := ext_K xG39 hLq14 hKq14
  have hLq14 := ext_L xG39 hLq14
  have hKq18 := ext_K xG39 hLq18 hKq18
  have hLq18 := ext_L xG39 hLq18
  have hKq22 := ext_K xG39 hLq22 hKq22
  have hLq22 := ext_L xG39 hLq22
  have hKq26 := ext_K xG39 hLq26 hKq26
  have hLq26 := ext_L xG39 hLq26
  have hKq32 := ext_K xG39 hLq32 hKq32
  have hLq32 := ext_L xG39 hLq32
  have hKq34 := ext_K xG39 hLq34 hKq34
  have hLq34 := ext_L xG39 hLq34
  have hext := ext_tr hext xG39
  refine lv_aload_n hx hb dX12_init_94 rfl (lv_at hl 0 rfl) ?_
  refine r_newO cx w tyX11 tyX11_ok rfl (by decide) wk_X12_init_X11 (List.mem_of_getElem? (i := 17) rfl) (List.mem_of_getElem? (i := 18) rfl) (List.mem_of_getElem? (i := 19) rfl) df_10 (Nat.le_of_ble_eq_true rfl) (Nat.le_of_ble_eq_true rfl) dX12_init_95 (fun q40 H nq40 w cx => ?_)
  obtain ⟨G41, eG41⟩ : ∃ z, z = gNw G39 q40 10 0 := ⟨_, rfl⟩
  obtain ⟨M42, eM42⟩ : ∃ z, z = wZ M38 q40 := ⟨_, rfl⟩
  rw [← eG41] at cx
  rw [← eG41, ← eM42] at w
  have h := h q40 nq40 G41 eG41 M42 eM42
  have xG41 := ext_nw eG41 nq40
  have hKa0 := ext_K xG41 hLa0 hKa0
  have hLa0 := ext_L xG41 hLa0
  have hKq1 := ext_K xG41 hLq1 hKq1
  have hLq1 := ext_L xG41 hLq1
  have hKq6 := ext_K xG41 hLq6 hKq6
  have hLq6 := ext_L xG41 hLq6
  have hKq10 := ext_K xG41 hLq10 hKq10
  have hLq10 := ext_L xG41 hLq10
  have hKq14 := ext_K xG41 hLq14 hKq14
  have hLq14 := ext_L xG41 hLq14
  have hKq18 := ext_K xG41 hLq18 hKq18
  have hLq18 := ext_L xG41 hLq18
  have hKq22 := ext_K xG41 hLq22 hKq22
  have hLq22 := ext_L xG41 hLq22
  have hKq26 := ext_K xG41 hLq26 hKq26
  have hLq26 := ext_L xG41 hLq26
  have hKq32 := ext_K xG41 hLq32 hKq32
  have hLq32 := ext_L xG41 hLq32
  have hKq34 := ext_K xG41 hLq34 hKq34
  have hLq34 := ext_L xG41 hLq34
  have hext := ext_tr hext xG41
  have hLq40 := nw_Lq eG41
  have hKq40 := nw_Kq eG41
  refine lv_dup hx hb dX12_init_98 rfl ?_
  refine lv_aload_n hx hb dX12_init_99 rfl (lv_at hl 0 rfl) ?_
  refine r_callNN (As := [.ref a0]) (rest := [.ref q40, .ref a0]) cx w ⟨Nat.le_of_ble_eq_true rfl, Nat.le_of_ble_eq_true rfl⟩ hl.1 (kn_X11_init (cX_wt cx) hLq40 hKq40 hLa0 hKa0 h) ⟨va_cnB 1 hts gX12_init_X11_init_n44 rfl rfl rfl (nwM cx (q := (RX12, 44, yX11_init, "FlagAntsModel")) (List.mem_of_getElem? (i := 7) rfl)) (hts _ (List.mem_of_getElem? (i := 19) rfl)) (by decide +kernel) ⟨Nat.le_of_ble_eq_true rfl, Nat.le_of_ble_eq_true rfl⟩, rfl, hts _ (List.mem_of_getElem? (i := 40) rfl)⟩ rfl rfl (Nat.le_of_ble_eq_true rfl) dX12_init_100 (fun G43 M44 H locs h xG43 cx w => ?_)
  have hKa0 := ext_K xG43 hLa0 hKa0
  have hLa0 := ext_L xG43 hLa0
  have hKq1 := ext_K xG43 hLq1 hKq1
  have hLq1 := ext_L xG43 hLq1
  have hKq6 := ext_K xG43 hLq6 hKq6
  have hLq6 := ext_L xG43 hLq6
  have hKq10 := ext_K xG43 hLq10 hKq10
  have hLq10 := ext_L xG43 hLq10
  have hKq14 := ext_K xG43 hLq14 hKq14
  have hLq14 := ext_L xG43 hLq14
  have hKq18 := ext_K xG43 hLq18 hKq18
  have hLq18 := ext_L xG43 hLq18
  have hKq22 := ext_K xG43 hLq22 hKq22
  have hLq22 := ext_L xG43 hLq22
  have hKq26 := ext_K xG43 hLq26 hKq26
  have hLq26 := ext_L xG43 hLq26
  have hKq32 := ext_K xG43 hLq32 hKq32
  have hLq32 := ext_L xG43 hLq32
  have hKq34 := ext_K xG43 hLq34 hKq34
  have hLq34 := ext_L xG43 hLq34
  have hKq40 := ext_K xG43 hLq40 hKq40
  have hLq40 := ext_L xG43 hLq40
  have hext := ext_tr hext xG43
  refine r_putRF (k := 14) cx w tyX12 tyX12_ok nmX12 hLa0 hKa0 (by decide) rfl wk_X12_init_X12 (by decide) rfl hini rfl (tyX12_ok 14 (by decide)) rfl rfl sr_11_14 (ln_11 _ _ (by decide)) hLq40 (by rw [hKq40]; rfl) (List.mem_of_getElem? (i := 21) rfl) dX12_init_103 (fun H locs w cx => ?_)
  obtain ⟨G45, eG45⟩ : ∃ z, z = gSt G43 a0 14 q40 := ⟨_, rfl⟩
  rw [← eG45] at w cx
  have h := h G45 eG45
  have xG45 := ext_st eG45
  have hKa0 := ext_K xG45 hLa0 hKa0
  have hLa0 := ext_L xG45 hLa0
  have hKq1 := ext_K xG45 hLq1 hKq1
  have hLq1 := ext_L xG45 hLq1
  have hKq6 := ext_K xG45 hLq6 hKq6
  have hLq6 := ext_L xG45 hLq6
  have hKq10 := ext_K xG45 hLq10 hKq10
  have hLq10 := ext_L xG45 hLq10
  have hKq14 := ext_K xG45 hLq14 hKq14
  have hLq14 := ext_L xG45 hLq14
  have hKq18 := ext_K xG45 hLq18 hKq18
  have hLq18 := ext_L xG45 hLq18
  have hKq22 := ext_K xG45 hLq22 hKq22
  have hLq22 := ext_L xG45 hLq22
  have hKq26 := ext_K xG45 hLq26 hKq26
  have hLq26 := ext_L xG45 hLq26
  have hKq32 := ext_K xG45 hLq32 hKq32
  have hLq32 := ext_L xG45 hLq32
  have hKq34 := ext_K xG45 hLq34 hKq34
  have hLq34 := ext_L xG45 hLq34
  have hKq40 := ext_K xG45 hLq40 hKq40
  have hLq40 := ext_L xG45 hLq40
  have hext := ext_tr hext xG45
  refine lv_aload_n hx hb dX12_init_106 rfl (lv_at hl 0 rfl) ?_
  obtain ⟨q46, eq46, h⟩ := h
  obtain ⟨hLq46, hKq46⟩ := wt_q (cX_wt cx) hLa0 hKa0 eq46
  have hKq46 : gK G45 q46 = 10 := hKq46
  refine r_getR (k := 13) cx w hLa0 hKa0 (by decide) rfl wk_X12_init_X12 (by decide) rfl eq46 (List.mem_of_getElem? (i := 20) rfl) dX12_init_107 ?_
  obtain ⟨M47, yM47, h⟩ := h
  refine r_callVv (As := []) (rest := []) cx w ⟨Nat.le_of_ble_eq_true rfl, Nat.le_of_ble_eq_true rfl⟩ hl.1 (k_X11_begin (cX_wt cx) hLq46 hKq46 yM47) (cwV 0 hts gX12_init_X11_begin rfl rfl rfl (by decide +kernel) ⟨Nat.le_of_ble_eq_true rfl, Nat.le_of_ble_eq_true rfl⟩) hLq46 hKq46 (by decide) rfl rfl rfl (Nat.le_of_ble_eq_true rfl) dX12_init_110 (fun H locs w => ?_)
  exact r_vretN cx w h hext (Nat.le_of_ble_eq_true rfl) (Nat.le_of_ble_eq_true rfl) dX12_init_113
