/-! the class's constructor -/
theorem cn_c0 {v : Nat} : ∀ k : Nat, cn (fun _ => 0) v k = if v = 0 then k else 0 := cn_0
/-- the class, new -/
def NC (G0 : gS) (M0 : mS) (q0 : Nat) (G : gS) (M : mS) : Prop := (∀ a ∈ gL G0, a ∈ gL G ∧ gK G a = gK G0 a ∧ gN G a = gN G0 a ∧ gP G a = gP G0 a ∧ mI M a = mI M0 a ∧ mJ M a = mJ M0 a) ∧ ∃ ad : Nat → Nat, ad 0 = q0 ∧ Inj ad ∧ Sh G ad ∧ (∀ k, k < 66 → ad k ∈ gL G ∧ ad k ∉ gL G0) ∧ AK G ad ∧ CA ad M aY0 aP0 (fun _ => 0) 0 (-1)
theorem nc_of {M : mS} {ad : Nat → Nat} (h1 : mI M (ad 1) = fun _ => 0) (h3 : mI M (ad 3) = fun _ => 0) (h21 : mI M (ad 21) = fun _ => 0) (h22 : mI M (ad 22) = fun _ => 0) (h23 : mI M (ad 23) = fun _ => 0) (h24 : mI M (ad 24) = upd (fun _ => 0) 0 4096) (h0 : mI M (ad 0) = upd (fun _ => 0) 6 (-1)) (hw : ∀ w, w < 33 → mJ M (ad 59) w = wdJ w) : CA ad M aY0 aP0 (fun _ => 0) 0 (-1) := by
  refine ⟨⟨⟨fun p hp => ?_, fun r hr => ?_, fun v hv => ?_⟩, ⟨?_, ?_, ?_, ?_, ?_⟩, fun i hi => absurd hi (Nat.not_lt_zero i)⟩, ⟨⟨?_, ?_, ?_⟩, fun r hr => absurd hr (Nat.not_lt_zero r), fun r hr => absurd hr (Nat.not_lt_zero r), fun k hk => absurd hk (Nat.not_lt_zero k), fun k hk => absurd hk (Nat.not_lt_zero k)⟩, ?_, fun k hk => absurd hk (Nat.not_lt_zero k), hw, ?_⟩
  · rw [show mI M (ad (21 + 1)) = _ from h22]; rfl
  · rw [show mI M (ad (21 + 2)) = _ from h23, show nz (yd_c aY0) (64 * r) 64 = 0 from nz_all0 64 (fun _ _ _ => rfl)]; rfl
  · rw [show mI M (ad (21 + 3)) = _ from h24, upd_at, show cn (yd_c aY0) v 4096 = _ from cn_c0 4096]
    by_cases e : v = 0
    · rw [if_pos e, if_pos e]; rfl
    · rw [if_neg e, if_neg e]; rfl
  · rw [h21]; rfl
  · rw [h21]; rfl
  · rw [h21]; rfl
  · rw [h21]; rfl
  · rw [h21]; rfl
  · rw [h3]; rfl
  · rw [h3]; rfl
  · rw [h3]; rfl
  · rw [h1]; rfl
  · rw [h0]; rfl
set_option maxHeartbeats 16000000 in
set_option maxRecDepth 20000 in
theorem x9_ok {G0 : gS} {M0 : mS} {q0 : Nat} (hq0 : q0 ∉ gL G0) {post : gS → mS → Prop} (H : ∀ G M, NC G0 M0 q0 G M → post G M) : n_X9_init (gNw G0 q0 8 0) (wZ M0 q0) q0 post := by
  unfold n_X9_init n_X6_init n_X3_init n_X8_init n_X0_init n_X2_init n_X7_init n_X5_init n_X4_init
  have b0 := Bu_00 (G := G0) (M := M0) (ad := fun k => k) (V := fun _ _ => 0) (VJ := fun _ _ => 0)
  have b1 := Bu_nw b0 hq0 (ci := 8) (n := 0) (k := 0) (by decide) rfl rfl
  clear b0
  intro q1 hq1 Ga1 ea1 Ma1 em1
  have b2 := Bu_nwE b1 hq1 ea1 em1 (k := 1) (by decide) rfl rfl
  clear b1 hq1 ea1 em1
  intro q2 hq2 Ga2 ea2 Ma2 em2
  have b3 := Bu_nwE b2 hq2 ea2 em2 (k := 2) (by decide) rfl rfl
  clear b2 hq2 ea2 em2
  intro Gs3 es3
  have b4 := Bu_stE b3 es3 (i := 1) (f := 0) (j := 2) (by decide) (by decide) rfl rfl (by decide)
  clear b3 es3
  intro Gs4 es4
  have b5 := Bu_stE b4 es4 (i := 0) (f := 0) (j := 1) (by decide) (by decide) rfl rfl (by decide)
  clear b4 es4
  intro q3 hq3 Ga5 ea5 Ma5 em5
  have b6 := Bu_nwE b5 hq3 ea5 em5 (k := 3) (by decide) rfl rfl
  clear b5 hq3 ea5 em5
  intro q4 hq4 Ga6 ea6 Ma6 em6
  have b7 := Bu_nwE b6 hq4 ea6 em6 (k := 4) (by decide) rfl rfl
  clear b6 hq4 ea6 em6
  intro Gs7 es7
  have b8 := Bu_stE b7 es7 (i := 3) (f := 1) (j := 4) (by decide) (by decide) rfl rfl (by decide)
  clear b7 es7
  intro q5 hq5 Ga8 ea8 Ma8 em8
  have b9 := Bu_nwE b8 hq5 ea8 em8 (k := 5) (by decide) rfl rfl
  clear b8 hq5 ea8 em8
  intro Gs9 es9
  have b10 := Bu_stE b9 es9 (i := 3) (f := 2) (j := 5) (by decide) (by decide) rfl rfl (by decide)
  clear b9 es9
  intro q6 hq6 Ga10 ea10 Ma10 em10
  have b11 := Bu_nwE b10 hq6 ea10 em10 (k := 6) (by decide) rfl rfl
  clear b10 hq6 ea10 em10
  intro Gs11 es11
  have b12 := Bu_stE b11 es11 (i := 3) (f := 4) (j := 6) (by decide) (by decide) rfl rfl (by decide)
  clear b11 es11
  intro q7 hq7 Ga12 ea12 Ma12 em12
  have b13 := Bu_nwE b12 hq7 ea12 em12 (k := 7) (by decide) rfl rfl
  clear b12 hq7 ea12 em12
  intro Gs13 es13
  have b14 := Bu_stE b13 es13 (i := 3) (f := 5) (j := 7) (by decide) (by decide) rfl rfl (by decide)
  clear b13 es13
  intro q8 hq8 Ga14 ea14 Ma14 em14
  have b15 := Bu_nwE b14 hq8 ea14 em14 (k := 8) (by decide) rfl rfl
  clear b14 hq8 ea14 em14
  intro Gs15 es15
  have b16 := Bu_stE b15 es15 (i := 3) (f := 6) (j := 8) (by decide) (by decide) rfl rfl (by decide)
  clear b15 es15
  intro q9 hq9 Ga16 ea16 Ma16 em16
  have b17 := Bu_nwE b16 hq9 ea16 em16 (k := 9) (by decide) rfl rfl
  clear b16 hq9 ea16 em16
  intro Gs17 es17
  have b18 := Bu_stE b17 es17 (i := 3) (f := 7) (j := 9) (by decide) (by decide) rfl rfl (by decide)
  clear b17 es17
  intro q10 hq10 Ga18 ea18 Ma18 em18
  have b19 := Bu_nwE b18 hq10 ea18 em18 (k := 10) (by decide) rfl rfl
  clear b18 hq10 ea18 em18
  intro Gs19 es19
  have b20 := Bu_stE b19 es19 (i := 3) (f := 9) (j := 10) (by decide) (by decide) rfl rfl (by decide)
  clear b19 es19
  intro q11 hq11 Ga20 ea20 Ma20 em20
  have b21 := Bu_nwE b20 hq11 ea20 em20 (k := 11) (by decide) rfl rfl
  clear b20 hq11 ea20 em20
  intro Gs21 es21
  have b22 := Bu_stE b21 es21 (i := 3) (f := 10) (j := 11) (by decide) (by decide) rfl rfl (by decide)
  clear b21 es21
  intro Gs22 es22
  have b23 := Bu_stE b22 es22 (i := 0) (f := 1) (j := 3) (by decide) (by decide) rfl rfl (by decide)
  clear b22 es22
  intro q21 hq21 Ga23 ea23 Ma23 em23
  have b24 := Bu_nwE b23 hq21 ea23 em23 (k := 21) (by decide) rfl rfl
  clear b23 hq21 ea23 em23
  intro q22 hq22 Ga24 ea24 Ma24 em24
  have b25 := Bu_nwE b24 hq22 ea24 em24 (k := 22) (by decide) rfl rfl
  clear b24 hq22 ea24 em24
  intro Gs25 es25
  have b26 := Bu_stE b25 es25 (i := 21) (f := 0) (j := 22) (by decide) (by decide) rfl rfl (by decide)
  clear b25 es25
  intro q23 hq23 Ga26 ea26 Ma26 em26
  have b27 := Bu_nwE b26 hq23 ea26 em26 (k := 23) (by decide) rfl rfl
  clear b26 hq23 ea26 em26
  intro Gs27 es27
  have b28 := Bu_stE b27 es27 (i := 21) (f := 1) (j := 23) (by decide) (by decide) rfl rfl (by decide)
  clear b27 es27
  intro q24 hq24 Ga28 ea28 Ma28 em28
  have b29 := Bu_nwE b28 hq24 ea28 em28 (k := 24) (by decide) rfl rfl
  clear b28 hq24 ea28 em28
  intro Gs29 es29
  have b30 := Bu_stE b29 es29 (i := 21) (f := 2) (j := 24) (by decide) (by decide) rfl rfl (by decide)
  clear b29 es29
  intro q25 hq25 Ga30 ea30 Ma30 em30
  have b31 := Bu_nwE b30 hq25 ea30 em30 (k := 25) (by decide) rfl rfl
  clear b30 hq25 ea30 em30
  intro Gs31 es31
  have b32 := Bu_stE b31 es31 (i := 21) (f := 3) (j := 25) (by decide) (by decide) rfl rfl (by decide)
  clear b31 es31
  refine ⟨q25, Bu_P b32 (i := 21) (f := 3) (j := 25) (by decide), ?_⟩
  intro q26 hq26 Ga32 ea32 Ma32 em32
  have b33 := Bu_nwE b32 hq26 ea32 em32 (k := 26) (by decide) rfl rfl
  clear b32 hq26 ea32 em32
  intro q27 hq27 Ga33 ea33 Ma33 em33
  have b34 := Bu_nwE b33 hq27 ea33 em33 (k := 27) (by decide) rfl rfl
  clear b33 hq27 ea33 em33
  intro Gs34 es34
  have b35 := Bu_stE b34 es34 (i := 26) (f := 8) (j := 27) (by decide) (by decide) rfl rfl (by decide)
  clear b34 es34
  refine ⟨Bu_in b35 (k := 25) (c := 14) (n := 6) (by decide) rfl (by unfold vp_in; decide), ?_⟩
  intro Gs35 es35
  have b36 := Bu_stE b35 es35 (i := 25) (f := 0) (j := 26) (by decide) (by decide) rfl rfl (by decide)
  clear b35 es35
  refine ⟨q25, Bu_P b36 (i := 21) (f := 3) (j := 25) (by decide), ?_⟩
  intro q28 hq28 Ga36 ea36 Ma36 em36
  have b37 := Bu_nwE b36 hq28 ea36 em36 (k := 28) (by decide) rfl rfl
  clear b36 hq28 ea36 em36
  intro q29 hq29 Ga37 ea37 Ma37 em37
  have b38 := Bu_nwE b37 hq29 ea37 em37 (k := 29) (by decide) rfl rfl
  clear b37 hq29 ea37 em37
  intro Gs38 es38
  have b39 := Bu_stE b38 es38 (i := 28) (f := 8) (j := 29) (by decide) (by decide) rfl rfl (by decide)
  clear b38 es38
  refine ⟨Bu_in b39 (k := 25) (c := 14) (n := 6) (by decide) rfl (by unfold vp_in; decide), ?_⟩
  intro Gs39 es39
  have b40 := Bu_stE b39 es39 (i := 25) (f := 1) (j := 28) (by decide) (by decide) rfl rfl (by decide)
  clear b39 es39
  refine ⟨q25, Bu_P b40 (i := 21) (f := 3) (j := 25) (by decide), ?_⟩
  intro q30 hq30 Ga40 ea40 Ma40 em40
  have b41 := Bu_nwE b40 hq30 ea40 em40 (k := 30) (by decide) rfl rfl
  clear b40 hq30 ea40 em40
  intro q31 hq31 Ga41 ea41 Ma41 em41
  have b42 := Bu_nwE b41 hq31 ea41 em41 (k := 31) (by decide) rfl rfl
  clear b41 hq31 ea41 em41
  intro Gs42 es42
  have b43 := Bu_stE b42 es42 (i := 30) (f := 8) (j := 31) (by decide) (by decide) rfl rfl (by decide)
  clear b42 es42
  refine ⟨Bu_in b43 (k := 25) (c := 14) (n := 6) (by decide) rfl (by unfold vp_in; decide), ?_⟩
  intro Gs43 es43
  have b44 := Bu_stE b43 es43 (i := 25) (f := 2) (j := 30) (by decide) (by decide) rfl rfl (by decide)
  clear b43 es43
  refine ⟨q25, Bu_P b44 (i := 21) (f := 3) (j := 25) (by decide), ?_⟩
  intro q32 hq32 Ga44 ea44 Ma44 em44
  have b45 := Bu_nwE b44 hq32 ea44 em44 (k := 32) (by decide) rfl rfl
  clear b44 hq32 ea44 em44
  intro q33 hq33 Ga45 ea45 Ma45 em45
  have b46 := Bu_nwE b45 hq33 ea45 em45 (k := 33) (by decide) rfl rfl
  clear b45 hq33 ea45 em45
  intro Gs46 es46
  have b47 := Bu_stE b46 es46 (i := 32) (f := 8) (j := 33) (by decide) (by decide) rfl rfl (by decide)
  clear b46 es46
  refine ⟨Bu_in b47 (k := 25) (c := 14) (n := 6) (by decide) rfl (by unfold vp_in; decide), ?_⟩
  intro Gs47 es47
  have b48 := Bu_stE b47 es47 (i := 25) (f := 3) (j := 32) (by decide) (by decide) rfl rfl (by decide)
  clear b47 es47
  refine ⟨q25, Bu_P b48 (i := 21) (f := 3) (j := 25) (by decide), ?_⟩
  intro q34 hq34 Ga48 ea48 Ma48 em48
  have b49 := Bu_nwE b48 hq34 ea48 em48 (k := 34) (by decide) rfl rfl
  clear b48 hq34 ea48 em48
  intro q35 hq35 Ga49 ea49 Ma49 em49
  have b50 := Bu_nwE b49 hq35 ea49 em49 (k := 35) (by decide) rfl rfl
  clear b49 hq35 ea49 em49
  intro Gs50 es50
  have b51 := Bu_stE b50 es50 (i := 34) (f := 8) (j := 35) (by decide) (by decide) rfl rfl (by decide)
  clear b50 es50
  refine ⟨Bu_in b51 (k := 25) (c := 14) (n := 6) (by decide) rfl (by unfold vp_in; decide), ?_⟩
  intro Gs51 es51
  have b52 := Bu_stE b51 es51 (i := 25) (f := 4) (j := 34) (by decide) (by decide) rfl rfl (by decide)
  clear b51 es51
  refine ⟨q25, Bu_P b52 (i := 21) (f := 3) (j := 25) (by decide), ?_⟩
  intro q36 hq36 Ga52 ea52 Ma52 em52
  have b53 := Bu_nwE b52 hq36 ea52 em52 (k := 36) (by decide) rfl rfl
  clear b52 hq36 ea52 em52
  intro q37 hq37 Ga53 ea53 Ma53 em53
  have b54 := Bu_nwE b53 hq37 ea53 em53 (k := 37) (by decide) rfl rfl
  clear b53 hq37 ea53 em53
  intro Gs54 es54
  have b55 := Bu_stE b54 es54 (i := 36) (f := 8) (j := 37) (by decide) (by decide) rfl rfl (by decide)
  clear b54 es54
  refine ⟨Bu_in b55 (k := 25) (c := 14) (n := 6) (by decide) rfl (by unfold vp_in; decide), ?_⟩
  intro Gs55 es55
  have b56 := Bu_stE b55 es55 (i := 25) (f := 5) (j := 36) (by decide) (by decide) rfl rfl (by decide)
  clear b55 es55
  refine ⟨q24, Bu_P b56 (i := 21) (f := 2) (j := 24) (by decide), ?_⟩
  refine ⟨Bu_in b56 (k := 24) (c := 12) (n := 6) (by decide) rfl (by unfold vp_in; decide), ?_⟩
  intro Mw56 ew56
  have b57 := Bu_wIE b56 ew56 (i := 24) (x := 0) (by decide) rfl
  clear b56 ew56
  intro Gs57 es57
  have b58 := Bu_stE b57 es57 (i := 0) (f := 2) (j := 21) (by decide) (by decide) rfl rfl (by decide)
  clear b57 es57
  intro q38 hq38 Ga58 ea58 Ma58 em58
  have b59 := Bu_nwE b58 hq38 ea58 em58 (k := 38) (by decide) rfl rfl
  clear b58 hq38 ea58 em58
  intro q39 hq39 Ga59 ea59 Ma59 em59
  have b60 := Bu_nwE b59 hq39 ea59 em59 (k := 39) (by decide) rfl rfl
  clear b59 hq39 ea59 em59
  intro Gs60 es60
  have b61 := Bu_stE b60 es60 (i := 38) (f := 0) (j := 39) (by decide) (by decide) rfl rfl (by decide)
  clear b60 es60
  intro q40 hq40 Ga61 ea61 Ma61 em61
  have b62 := Bu_nwE b61 hq40 ea61 em61 (k := 40) (by decide) rfl rfl
  clear b61 hq40 ea61 em61
  intro Gs62 es62
  have b63 := Bu_stE b62 es62 (i := 38) (f := 1) (j := 40) (by decide) (by decide) rfl rfl (by decide)
  clear b62 es62
  intro q41 hq41 Ga63 ea63 Ma63 em63
  have b64 := Bu_nwE b63 hq41 ea63 em63 (k := 41) (by decide) rfl rfl
  clear b63 hq41 ea63 em63
  intro Gs64 es64
  have b65 := Bu_stE b64 es64 (i := 38) (f := 2) (j := 41) (by decide) (by decide) rfl rfl (by decide)
  clear b64 es64
  intro q42 hq42 Ga65 ea65 Ma65 em65
  have b66 := Bu_nwE b65 hq42 ea65 em65 (k := 42) (by decide) rfl rfl
  clear b65 hq42 ea65 em65
  intro Gs66 es66
  have b67 := Bu_stE b66 es66 (i := 38) (f := 3) (j := 42) (by decide) (by decide) rfl rfl (by decide)
  clear b66 es66
  refine ⟨q42, Bu_P b67 (i := 38) (f := 3) (j := 42) (by decide), ?_⟩
  intro q43 hq43 Ga67 ea67 Ma67 em67
  have b68 := Bu_nwE b67 hq43 ea67 em67 (k := 43) (by decide) rfl rfl
  clear b67 hq43 ea67 em67
  intro q44 hq44 Ga68 ea68 Ma68 em68
  have b69 := Bu_nwE b68 hq44 ea68 em68 (k := 44) (by decide) rfl rfl
  clear b68 hq44 ea68 em68
  intro Gs69 es69
  have b70 := Bu_stE b69 es69 (i := 43) (f := 8) (j := 44) (by decide) (by decide) rfl rfl (by decide)
  clear b69 es69
  refine ⟨Bu_in b70 (k := 42) (c := 14) (n := 6) (by decide) rfl (by unfold vp_in; decide), ?_⟩
  intro Gs70 es70
  have b71 := Bu_stE b70 es70 (i := 42) (f := 0) (j := 43) (by decide) (by decide) rfl rfl (by decide)
  clear b70 es70
  refine ⟨q42, Bu_P b71 (i := 38) (f := 3) (j := 42) (by decide), ?_⟩
  intro q45 hq45 Ga71 ea71 Ma71 em71
  have b72 := Bu_nwE b71 hq45 ea71 em71 (k := 45) (by decide) rfl rfl
  clear b71 hq45 ea71 em71
  intro q46 hq46 Ga72 ea72 Ma72 em72
  have b73 := Bu_nwE b72 hq46 ea72 em72 (k := 46) (by decide) rfl rfl
  clear b72 hq46 ea72 em72
  intro Gs73 es73
  have b74 := Bu_stE b73 es73 (i := 45) (f := 8) (j := 46) (by decide) (by decide) rfl rfl (by decide)
  clear b73 es73
  refine ⟨Bu_in b74 (k := 42) (c := 14) (n := 6) (by decide) rfl (by unfold vp_in; decide), ?_⟩
  intro Gs74 es74
  have b75 := Bu_stE b74 es74 (i := 42) (f := 1) (j := 45) (by decide) (by decide) rfl rfl (by decide)
  clear b74 es74
  refine ⟨q42, Bu_P b75 (i := 38) (f := 3) (j := 42) (by decide), ?_⟩
  intro q47 hq47 Ga75 ea75 Ma75 em75
  have b76 := Bu_nwE b75 hq47 ea75 em75 (k := 47) (by decide) rfl rfl
  clear b75 hq47 ea75 em75
  intro q48 hq48 Ga76 ea76 Ma76 em76
  have b77 := Bu_nwE b76 hq48 ea76 em76 (k := 48) (by decide) rfl rfl
  clear b76 hq48 ea76 em76
  intro Gs77 es77
  have b78 := Bu_stE b77 es77 (i := 47) (f := 8) (j := 48) (by decide) (by decide) rfl rfl (by decide)
  clear b77 es77
  refine ⟨Bu_in b78 (k := 42) (c := 14) (n := 6) (by decide) rfl (by unfold vp_in; decide), ?_⟩
  intro Gs78 es78
  have b79 := Bu_stE b78 es78 (i := 42) (f := 2) (j := 47) (by decide) (by decide) rfl rfl (by decide)
  clear b78 es78
  refine ⟨q42, Bu_P b79 (i := 38) (f := 3) (j := 42) (by decide), ?_⟩
  intro q49 hq49 Ga79 ea79 Ma79 em79
  have b80 := Bu_nwE b79 hq49 ea79 em79 (k := 49) (by decide) rfl rfl
  clear b79 hq49 ea79 em79
  intro q50 hq50 Ga80 ea80 Ma80 em80
  have b81 := Bu_nwE b80 hq50 ea80 em80 (k := 50) (by decide) rfl rfl
  clear b80 hq50 ea80 em80
  intro Gs81 es81
  have b82 := Bu_stE b81 es81 (i := 49) (f := 8) (j := 50) (by decide) (by decide) rfl rfl (by decide)
  clear b81 es81
  refine ⟨Bu_in b82 (k := 42) (c := 14) (n := 6) (by decide) rfl (by unfold vp_in; decide), ?_⟩
  intro Gs82 es82
  have b83 := Bu_stE b82 es82 (i := 42) (f := 3) (j := 49) (by decide) (by decide) rfl rfl (by decide)
  clear b82 es82
  refine ⟨q42, Bu_P b83 (i := 38) (f := 3) (j := 42) (by decide), ?_⟩
  intro q51 hq51 Ga83 ea83 Ma83 em83
  have b84 := Bu_nwE b83 hq51 ea83 em83 (k := 51) (by decide) rfl rfl
  clear b83 hq51 ea83 em83
  intro q52 hq52 Ga84 ea84 Ma84 em84
  have b85 := Bu_nwE b84 hq52 ea84 em84 (k := 52) (by decide) rfl rfl
  clear b84 hq52 ea84 em84
  intro Gs85 es85
  have b86 := Bu_stE b85 es85 (i := 51) (f := 8) (j := 52) (by decide) (by decide) rfl rfl (by decide)
  clear b85 es85
  refine ⟨Bu_in b86 (k := 42) (c := 14) (n := 6) (by decide) rfl (by unfold vp_in; decide), ?_⟩
  intro Gs86 es86
  have b87 := Bu_stE b86 es86 (i := 42) (f := 4) (j := 51) (by decide) (by decide) rfl rfl (by decide)
  clear b86 es86
  refine ⟨q42, Bu_P b87 (i := 38) (f := 3) (j := 42) (by decide), ?_⟩
  intro q53 hq53 Ga87 ea87 Ma87 em87
  have b88 := Bu_nwE b87 hq53 ea87 em87 (k := 53) (by decide) rfl rfl
  clear b87 hq53 ea87 em87
  intro q54 hq54 Ga88 ea88 Ma88 em88
  have b89 := Bu_nwE b88 hq54 ea88 em88 (k := 54) (by decide) rfl rfl
  clear b88 hq54 ea88 em88
  intro Gs89 es89
  have b90 := Bu_stE b89 es89 (i := 53) (f := 8) (j := 54) (by decide) (by decide) rfl rfl (by decide)
  clear b89 es89
  refine ⟨Bu_in b90 (k := 42) (c := 14) (n := 6) (by decide) rfl (by unfold vp_in; decide), ?_⟩
  intro Gs90 es90
  have b91 := Bu_stE b90 es90 (i := 42) (f := 5) (j := 53) (by decide) (by decide) rfl rfl (by decide)
  clear b90 es90
  refine ⟨q41, Bu_P b91 (i := 38) (f := 2) (j := 41) (by decide), ?_⟩
  refine ⟨Bu_in b91 (k := 41) (c := 12) (n := 6) (by decide) rfl (by unfold vp_in; decide), ?_⟩
  intro Mw91 ew91
  have b92 := Bu_wIE b91 ew91 (i := 41) (x := 0) (by decide) rfl
  clear b91 ew91
  intro Gs92 es92
  have b93 := Bu_stE b92 es92 (i := 0) (f := 3) (j := 38) (by decide) (by decide) rfl rfl (by decide)
  clear b92 es92
  intro q55 hq55 Ga93 ea93 Ma93 em93
  have b94 := Bu_nwE b93 hq55 ea93 em93 (k := 55) (by decide) rfl rfl
  clear b93 hq55 ea93 em93
  refine ⟨q1, Bu_P b94 (i := 0) (f := 0) (j := 1) (by decide), ?_⟩
  refine ⟨q38, Bu_P b94 (i := 0) (f := 3) (j := 38) (by decide), ?_⟩
  intro q56 hq56 Ga94 ea94 Ma94 em94
  have b95 := Bu_nwE b94 hq56 ea94 em94 (k := 56) (by decide) rfl rfl
  clear b94 hq56 ea94 em94
  intro Gs95 es95
  have b96 := Bu_stE b95 es95 (i := 55) (f := 3) (j := 56) (by decide) (by decide) rfl rfl (by decide)
  clear b95 es95
  intro q57 hq57 Ga96 ea96 Ma96 em96
  have b97 := Bu_nwE b96 hq57 ea96 em96 (k := 57) (by decide) rfl rfl
  clear b96 hq57 ea96 em96
  intro Gs97 es97
  have b98 := Bu_stE b97 es97 (i := 55) (f := 4) (j := 57) (by decide) (by decide) rfl rfl (by decide)
  clear b97 es97
  intro q58 hq58 Ga98 ea98 Ma98 em98
  have b99 := Bu_nwE b98 hq58 ea98 em98 (k := 58) (by decide) rfl rfl
  clear b98 hq58 ea98 em98
  intro q59 hq59 Ga99 ea99 Ma99 em99
  have b100 := Bu_nwE b99 hq59 ea99 em99 (k := 59) (by decide) rfl rfl
  clear b99 hq59 ea99 em99
  intro Gs100 es100
  have b101 := Bu_stE b100 es100 (i := 58) (f := 1) (j := 59) (by decide) (by decide) rfl rfl (by decide)
  clear b100 es100
  intro q60 hq60 Ga101 ea101 Ma101 em101
  have b102 := Bu_nwE b101 hq60 ea101 em101 (k := 60) (by decide) rfl rfl
  clear b101 hq60 ea101 em101
  intro Gs102 es102
  have b103 := Bu_stE b102 es102 (i := 58) (f := 2) (j := 60) (by decide) (by decide) rfl rfl (by decide)
  clear b102 es102
  intro q61 hq61 Ga103 ea103 Ma103 em103
  have b104 := Bu_nwE b103 hq61 ea103 em103 (k := 61) (by decide) rfl rfl
  clear b103 hq61 ea103 em103
  intro Gs104 es104
  have b105 := Bu_stE b104 es104 (i := 58) (f := 3) (j := 61) (by decide) (by decide) rfl rfl (by decide)
  clear b104 es104
  intro q62 hq62 Ga105 ea105 Ma105 em105
  have b106 := Bu_nwE b105 hq62 ea105 em105 (k := 62) (by decide) rfl rfl
  clear b105 hq62 ea105 em105
  intro Gs106 es106
  have b107 := Bu_stE b106 es106 (i := 58) (f := 4) (j := 62) (by decide) (by decide) rfl rfl (by decide)
  clear b106 es106
  intro Gs107 es107
  have b108 := Bu_stE b107 es107 (i := 58) (f := 0) (j := 1) (by decide) (by decide) rfl rfl (by decide)
  clear b107 es107
  obtain ⟨Mpw, w1, w2, w3, w4⟩ := p_words (G := Gs107) (M := Ma105) (a0 := q58) (q := q59) (Bu_P b108 (i := 58) (f := 1) (j := 59) (by decide)) (Bu_N b108 (k := 59) (c := 13) (n := 33) (by decide))
  refine ⟨Mpw, w1, ?_⟩
  have b109 := Bu_words b108 (i := 59) (by decide) w2 (w := q59) rfl w3
  clear b108 w1 w2 w3
  intro Gs108 es108
  have b110 := Bu_stE b109 es108 (i := 55) (f := 0) (j := 58) (by decide) (by decide) rfl rfl (by decide)
  clear b109 es108
  intro q12 hq12 Ga109 ea109 Ma109 em109
  have b111 := Bu_nwE b110 hq12 ea109 em109 (k := 12) (by decide) rfl rfl
  clear b110 hq12 ea109 em109
  intro q13 hq13 Ga110 ea110 Ma110 em110
  have b112 := Bu_nwE b111 hq13 ea110 em110 (k := 13) (by decide) rfl rfl
  clear b111 hq13 ea110 em110
  intro Gs111 es111
  have b113 := Bu_stE b112 es111 (i := 12) (f := 1) (j := 13) (by decide) (by decide) rfl rfl (by decide)
  clear b112 es111
  intro q14 hq14 Ga112 ea112 Ma112 em112
  have b114 := Bu_nwE b113 hq14 ea112 em112 (k := 14) (by decide) rfl rfl
  clear b113 hq14 ea112 em112
  intro Gs113 es113
  have b115 := Bu_stE b114 es113 (i := 12) (f := 2) (j := 14) (by decide) (by decide) rfl rfl (by decide)
  clear b114 es113
  intro q15 hq15 Ga114 ea114 Ma114 em114
  have b116 := Bu_nwE b115 hq15 ea114 em114 (k := 15) (by decide) rfl rfl
  clear b115 hq15 ea114 em114
  intro Gs115 es115
  have b117 := Bu_stE b116 es115 (i := 12) (f := 4) (j := 15) (by decide) (by decide) rfl rfl (by decide)
  clear b116 es115
  intro q16 hq16 Ga116 ea116 Ma116 em116
  have b118 := Bu_nwE b117 hq16 ea116 em116 (k := 16) (by decide) rfl rfl
  clear b117 hq16 ea116 em116
  intro Gs117 es117
  have b119 := Bu_stE b118 es117 (i := 12) (f := 5) (j := 16) (by decide) (by decide) rfl rfl (by decide)
  clear b118 es117
  intro q17 hq17 Ga118 ea118 Ma118 em118
  have b120 := Bu_nwE b119 hq17 ea118 em118 (k := 17) (by decide) rfl rfl
  clear b119 hq17 ea118 em118
  intro Gs119 es119
  have b121 := Bu_stE b120 es119 (i := 12) (f := 6) (j := 17) (by decide) (by decide) rfl rfl (by decide)
  clear b120 es119
  intro q18 hq18 Ga120 ea120 Ma120 em120
  have b122 := Bu_nwE b121 hq18 ea120 em120 (k := 18) (by decide) rfl rfl
  clear b121 hq18 ea120 em120
  intro Gs121 es121
  have b123 := Bu_stE b122 es121 (i := 12) (f := 7) (j := 18) (by decide) (by decide) rfl rfl (by decide)
  clear b122 es121
  intro q19 hq19 Ga122 ea122 Ma122 em122
  have b124 := Bu_nwE b123 hq19 ea122 em122 (k := 19) (by decide) rfl rfl
  clear b123 hq19 ea122 em122
  intro Gs123 es123
  have b125 := Bu_stE b124 es123 (i := 12) (f := 9) (j := 19) (by decide) (by decide) rfl rfl (by decide)
  clear b124 es123
  intro q20 hq20 Ga124 ea124 Ma124 em124
  have b126 := Bu_nwE b125 hq20 ea124 em124 (k := 20) (by decide) rfl rfl
  clear b125 hq20 ea124 em124
  intro Gs125 es125
  have b127 := Bu_stE b126 es125 (i := 12) (f := 10) (j := 20) (by decide) (by decide) rfl rfl (by decide)
  clear b126 es125
  intro Gs126 es126
  have b128 := Bu_stE b127 es126 (i := 55) (f := 1) (j := 12) (by decide) (by decide) rfl rfl (by decide)
  clear b127 es126
  intro Gs127 es127
  have b129 := Bu_stE b128 es127 (i := 55) (f := 2) (j := 38) (by decide) (by decide) rfl rfl (by decide)
  clear b128 es127
  intro Gs128 es128
  have b130 := Bu_stE b129 es128 (i := 0) (f := 4) (j := 55) (by decide) (by decide) rfl rfl (by decide)
  clear b129 es128
  intro q63 hq63 Ga129 ea129 Ma129 em129
  have b131 := Bu_nwE b130 hq63 ea129 em129 (k := 63) (by decide) rfl rfl
  clear b130 hq63 ea129 em129
  refine ⟨q3, Bu_P b131 (i := 0) (f := 1) (j := 3) (by decide), ?_⟩
  intro q64 hq64 Ga130 ea130 Ma130 em130
  have b132 := Bu_nwE b131 hq64 ea130 em130 (k := 64) (by decide) rfl rfl
  clear b131 hq64 ea130 em130
  intro q65 hq65 Ga131 ea131 Ma131 em131
  have b133 := Bu_nwE b132 hq65 ea131 em131 (k := 65) (by decide) rfl rfl
  clear b132 hq65 ea131 em131
  intro Gs132 es132
  have b134 := Bu_stE b133 es132 (i := 64) (f := 0) (j := 65) (by decide) (by decide) rfl rfl (by decide)
  clear b133 es132
  intro Gs133 es133
  have b135 := Bu_stE b134 es133 (i := 63) (f := 1) (j := 64) (by decide) (by decide) rfl rfl (by decide)
  clear b134 es133
  intro Gs134 es134
  have b136 := Bu_stE b135 es134 (i := 63) (f := 0) (j := 3) (by decide) (by decide) rfl rfl (by decide)
  clear b135 es134
  intro Gs135 es135
  have b137 := Bu_stE b136 es135 (i := 0) (f := 5) (j := 63) (by decide) (by decide) rfl rfl (by decide)
  clear b136 es135
  intro Mw136 ew136
  have b138 := Bu_wIE b137 ew136 (i := 0) (x := 6) (by decide) rfl
  clear b137 ew136
  obtain ⟨ad2, iB, _, u2, c4⟩ := Bu_fresh b138 (S := fun _ => False) (ad0 := fun k => k) (fun k l h => h.elim) (fun k h => h.elim) (fun k _ h => h)
  have z0 : ad2 0 = q0 := (u2 0 (by decide)).trans rfl
  have z59 : ad2 59 = q59 := (u2 59 (by decide)).trans rfl
  clear u2 b138
  have sP3 : PSh Gs135 ad2 3 := ⟨⟨Bu_P c4 (i := 3) (f := 1) (j := 4) (by decide), Bu_P c4 (i := 3) (f := 2) (j := 5) (by decide), Bu_P c4 (i := 3) (f := 4) (j := 6) (by decide), Bu_P c4 (i := 3) (f := 5) (j := 7) (by decide), Bu_P c4 (i := 3) (f := 6) (j := 8) (by decide), Bu_P c4 (i := 3) (f := 7) (j := 9) (by decide), Bu_P c4 (i := 3) (f := 9) (j := 10) (by decide), Bu_P c4 (i := 3) (f := 10) (j := 11) (by decide)⟩, Bu_N c4 (k := 4) (c := 12) (n := 5) (by decide), Bu_N c4 (k := 5) (c := 12) (n := 30) (by decide), Bu_N c4 (k := 6) (c := 12) (n := 20) (by decide), Bu_N c4 (k := 7) (c := 12) (n := 20) (by decide), Bu_N c4 (k := 8) (c := 12) (n := 20) (by decide), Bu_N c4 (k := 9) (c := 12) (n := 20) (by decide), Bu_N c4 (k := 10) (c := 12) (n := 400) (by decide), Bu_N c4 (k := 11) (c := 12) (n := 400) (by decide)⟩
  have sP12 : PSh Gs135 ad2 12 := ⟨⟨Bu_P c4 (i := 12) (f := 1) (j := 13) (by decide), Bu_P c4 (i := 12) (f := 2) (j := 14) (by decide), Bu_P c4 (i := 12) (f := 4) (j := 15) (by decide), Bu_P c4 (i := 12) (f := 5) (j := 16) (by decide), Bu_P c4 (i := 12) (f := 6) (j := 17) (by decide), Bu_P c4 (i := 12) (f := 7) (j := 18) (by decide), Bu_P c4 (i := 12) (f := 9) (j := 19) (by decide), Bu_P c4 (i := 12) (f := 10) (j := 20) (by decide)⟩, Bu_N c4 (k := 13) (c := 12) (n := 5) (by decide), Bu_N c4 (k := 14) (c := 12) (n := 30) (by decide), Bu_N c4 (k := 15) (c := 12) (n := 20) (by decide), Bu_N c4 (k := 16) (c := 12) (n := 20) (by decide), Bu_N c4 (k := 17) (c := 12) (n := 20) (by decide), Bu_N c4 (k := 18) (c := 12) (n := 20) (by decide), Bu_N c4 (k := 19) (c := 12) (n := 400) (by decide), Bu_N c4 (k := 20) (c := 12) (n := 400) (by decide)⟩
  have sY21 : YSh Gs135 ad2 21 := ⟨Bu_P c4 (i := 21) (f := 0) (j := 22) (by decide), Bu_P c4 (i := 21) (f := 1) (j := 23) (by decide), Bu_P c4 (i := 21) (f := 2) (j := 24) (by decide), Bu_P c4 (i := 21) (f := 3) (j := 25) (by decide), fun i hi => by
    rcases (show i = 0 ∨ i = 1 ∨ i = 2 ∨ i = 3 ∨ i = 4 ∨ i = 5 by omega) with rfl | rfl | rfl | rfl | rfl | rfl
    · exact Bu_P c4 (i := 25) (f := 0) (j := 26) (by decide)
    · exact Bu_P c4 (i := 25) (f := 1) (j := 28) (by decide)
    · exact Bu_P c4 (i := 25) (f := 2) (j := 30) (by decide)
    · exact Bu_P c4 (i := 25) (f := 3) (j := 32) (by decide)
    · exact Bu_P c4 (i := 25) (f := 4) (j := 34) (by decide)
    · exact Bu_P c4 (i := 25) (f := 5) (j := 36) (by decide),
    Bu_N c4 (k := 22) (c := 12) (n := 4096) (by decide), Bu_N c4 (k := 23) (c := 12) (n := 64) (by decide), Bu_N c4 (k := 24) (c := 12) (n := 6) (by decide), Bu_N c4 (k := 25) (c := 14) (n := 6) (by decide), fun i hi => by
    rcases (show i = 0 ∨ i = 1 ∨ i = 2 ∨ i = 3 ∨ i = 4 ∨ i = 5 by omega) with rfl | rfl | rfl | rfl | rfl | rfl
    · exact ⟨Bu_P c4 (i := 26) (f := 8) (j := 27) (by decide), Bu_N c4 (k := 27) (c := 12) (n := 512) (by decide)⟩
    · exact ⟨Bu_P c4 (i := 28) (f := 8) (j := 29) (by decide), Bu_N c4 (k := 29) (c := 12) (n := 512) (by decide)⟩
    · exact ⟨Bu_P c4 (i := 30) (f := 8) (j := 31) (by decide), Bu_N c4 (k := 31) (c := 12) (n := 512) (by decide)⟩
    · exact ⟨Bu_P c4 (i := 32) (f := 8) (j := 33) (by decide), Bu_N c4 (k := 33) (c := 12) (n := 512) (by decide)⟩
    · exact ⟨Bu_P c4 (i := 34) (f := 8) (j := 35) (by decide), Bu_N c4 (k := 35) (c := 12) (n := 512) (by decide)⟩
    · exact ⟨Bu_P c4 (i := 36) (f := 8) (j := 37) (by decide), Bu_N c4 (k := 37) (c := 12) (n := 512) (by decide)⟩⟩
  have sY38 : YSh Gs135 ad2 38 := ⟨Bu_P c4 (i := 38) (f := 0) (j := 39) (by decide), Bu_P c4 (i := 38) (f := 1) (j := 40) (by decide), Bu_P c4 (i := 38) (f := 2) (j := 41) (by decide), Bu_P c4 (i := 38) (f := 3) (j := 42) (by decide), fun i hi => by
    rcases (show i = 0 ∨ i = 1 ∨ i = 2 ∨ i = 3 ∨ i = 4 ∨ i = 5 by omega) with rfl | rfl | rfl | rfl | rfl | rfl
    · exact Bu_P c4 (i := 42) (f := 0) (j := 43) (by decide)
    · exact Bu_P c4 (i := 42) (f := 1) (j := 45) (by decide)
    · exact Bu_P c4 (i := 42) (f := 2) (j := 47) (by decide)
    · exact Bu_P c4 (i := 42) (f := 3) (j := 49) (by decide)
    · exact Bu_P c4 (i := 42) (f := 4) (j := 51) (by decide)
    · exact Bu_P c4 (i := 42) (f := 5) (j := 53) (by decide),
    Bu_N c4 (k := 39) (c := 12) (n := 4096) (by decide), Bu_N c4 (k := 40) (c := 12) (n := 64) (by decide), Bu_N c4 (k := 41) (c := 12) (n := 6) (by decide), Bu_N c4 (k := 42) (c := 14) (n := 6) (by decide), fun i hi => by
    rcases (show i = 0 ∨ i = 1 ∨ i = 2 ∨ i = 3 ∨ i = 4 ∨ i = 5 by omega) with rfl | rfl | rfl | rfl | rfl | rfl
    · exact ⟨Bu_P c4 (i := 43) (f := 8) (j := 44) (by decide), Bu_N c4 (k := 44) (c := 12) (n := 512) (by decide)⟩
    · exact ⟨Bu_P c4 (i := 45) (f := 8) (j := 46) (by decide), Bu_N c4 (k := 46) (c := 12) (n := 512) (by decide)⟩
    · exact ⟨Bu_P c4 (i := 47) (f := 8) (j := 48) (by decide), Bu_N c4 (k := 48) (c := 12) (n := 512) (by decide)⟩
    · exact ⟨Bu_P c4 (i := 49) (f := 8) (j := 50) (by decide), Bu_N c4 (k := 50) (c := 12) (n := 512) (by decide)⟩
    · exact ⟨Bu_P c4 (i := 51) (f := 8) (j := 52) (by decide), Bu_N c4 (k := 52) (c := 12) (n := 512) (by decide)⟩
    · exact ⟨Bu_P c4 (i := 53) (f := 8) (j := 54) (by decide), Bu_N c4 (k := 54) (c := 12) (n := 512) (by decide)⟩⟩
  have sS : Sh Gs135 ad2 := ⟨Bu_P c4 (i := 0) (f := 0) (j := 1) (by decide), Bu_P c4 (i := 0) (f := 1) (j := 3) (by decide), Bu_P c4 (i := 0) (f := 2) (j := 21) (by decide), Bu_P c4 (i := 0) (f := 3) (j := 38) (by decide), Bu_P c4 (i := 0) (f := 4) (j := 55) (by decide), Bu_P c4 (i := 0) (f := 5) (j := 63) (by decide), Bu_P c4 (i := 1) (f := 0) (j := 2) (by decide), Bu_N c4 (k := 2) (c := 12) (n := 2000) (by decide), sP3, sP12, sY21, sY38, ⟨Bu_P c4 (i := 63) (f := 0) (j := 3) (by decide), Bu_P c4 (i := 63) (f := 1) (j := 64) (by decide)⟩, ⟨Bu_P c4 (i := 64) (f := 0) (j := 65) (by decide), Bu_N c4 (k := 65) (c := 12) (n := 64) (by decide)⟩, Bu_P c4 (i := 55) (f := 0) (j := 58) (by decide), Bu_P c4 (i := 55) (f := 1) (j := 12) (by decide), Bu_P c4 (i := 55) (f := 2) (j := 38) (by decide), Bu_P c4 (i := 55) (f := 3) (j := 56) (by decide), Bu_P c4 (i := 55) (f := 4) (j := 57) (by decide), Bu_N c4 (k := 56) (c := 13) (n := 5) (by decide), Bu_N c4 (k := 57) (c := 13) (n := 6) (by decide), Bu_P c4 (i := 58) (f := 0) (j := 1) (by decide), Bu_P c4 (i := 58) (f := 1) (j := 59) (by decide), Bu_P c4 (i := 58) (f := 2) (j := 60) (by decide), Bu_P c4 (i := 58) (f := 3) (j := 61) (by decide), Bu_P c4 (i := 58) (f := 4) (j := 62) (by decide), Bu_N c4 (k := 59) (c := 13) (n := 33) (by decide), Bu_N c4 (k := 60) (c := 12) (n := 401) (by decide), Bu_N c4 (k := 61) (c := 12) (n := 401) (by decide), Bu_N c4 (k := 62) (c := 13) (n := 401) (by decide)⟩
  refine H _ _ ⟨c4.1, ad2, z0, iB, sS, fun k hk => c4.2.1 k ?_, fun i hi => ⟨(c4.2.1 _ ?_).1, ?_⟩, nc_of (Bu_I c4 (k := 1) (by decide)) (Bu_I c4 (k := 3) (by decide)) (Bu_I c4 (k := 21) (by decide)) (Bu_I c4 (k := 22) (by decide)) (Bu_I c4 (k := 23) (by decide)) (Bu_I c4 (k := 24) (by decide)) (Bu_I c4 (k := 0) (by decide)) (fun w hw => by rw [(c4.2.2.2.2.2 59 (by decide)).2]; exact w4 w hw)⟩
  · exact (by decide : ∀ j, j < 66 → j ∈ _) k hk
  · exact (by decide : ∀ j, j < 6 → 38 + 5 + 2 * j ∈ _) i hi
  · rcases (show i = 0 ∨ i = 1 ∨ i = 2 ∨ i = 3 ∨ i = 4 ∨ i = 5 by omega) with rfl | rfl | rfl | rfl | rfl | rfl
    · exact Bu_K c4 (k := 43) (c := 0) (n := 0) (by decide)
    · exact Bu_K c4 (k := 45) (c := 0) (n := 0) (by decide)
    · exact Bu_K c4 (k := 47) (c := 0) (n := 0) (by decide)
    · exact Bu_K c4 (k := 49) (c := 0) (n := 0) (by decide)
    · exact Bu_K c4 (k := 51) (c := 0) (n := 0) (by decide)
    · exact Bu_K c4 (k := 53) (c := 0) (n := 0) (by decide)
