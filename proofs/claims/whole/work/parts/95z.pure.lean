/-! every call keeps what holds between two calls -/
section Calls
theorem ifP {c A B : Prop} [Decidable c] (h1 : c → A) (h2 : ¬ c → B) : if c then A else B := by
  by_cases h : c
  · rw [if_pos h]; exact h1 h
  · rw [if_neg h]; exact h2 h
variable {G : gS} {M : mS} {x mm o j : Nat}
theorem pure_ok : PureOk Inv := by
  refine ⟨start_ok, ?_⟩
  rintro x mm o j G M d c1 c2 c3 c4 c5 hj ⟨ad, Y, P, T, tl, ea, hA, ⟨rfl, rfl, rfl⟩, hS, hU, hv, hr, hvP, ⟨htl, hT⟩, hc, hm⟩ hG
  have h70 : ad 70 ∈ gL G := hU.1 70 (by decide)
  have hn := hv.2.1
  have mono : ∀ {Y' : aY}, vY (1000 * j) Y' → vY (1000 * (j + 1)) Y' := fun h => vY_mono h (by omega)
  -- nothing but the memory has changed, or the yard too
  have keep : ∀ M', CA ad M' Y P T tl ea → MA ad M' Y P T tl ea → Inv (ad 0) (ad 70) (ad 105) (j + 1) G M' := fun M' a b => ⟨ad, Y, P, T, tl, ea, hA, ⟨rfl, rfl, rfl⟩, hS, hU, mono hv, hr, hvP, ⟨htl, hT⟩, a, b⟩
  have yard : ∀ M' Y', vY (1000 * j) Y' → vR P Y' → yd_n Y' = yd_n Y → CA ad M' Y' P T tl ea → MA ad M' Y' P T tl ea → Inv (ad 0) (ad 70) (ad 105) (j + 1) G M' := fun M' Y' a b c d e => ⟨ad, Y', P, T, tl, ea, hA, ⟨rfl, rfl, rfl⟩, hS, hU, mono a, b, by rw [c]; exact hvP, ⟨htl, hT⟩, d, e⟩
  have grow : ∀ G' M', Sh G' ad → Us G' ad → CA ad M' Y P T tl ea → MA ad M' Y P T tl ea → Inv (ad 0) (ad 70) (ad 105) (j + 1) G' M' := fun G' M' s u a b => ⟨ad, Y, P, T, tl, ea, hA, ⟨rfl, rfl, rfl⟩, s, u, mono hv, hr, hvP, ⟨htl, hT⟩, a, b⟩
  unfold fcs
  refine ifP (fun _ => ok_0 hA hS hU hv htl hT hc hm (fun G' M' T' tl' s u t1 t2 a b => ⟨ad, Y, P, T', tl', ea, hA, ⟨rfl, rfl, rfl⟩, s, u, mono hv, hr, hvP, ⟨t1, t2⟩, a, b⟩)) (fun _ => ?_)
  refine ifP (fun _ => ok_1 hA hS hv htl hT hc hm (fun M' tl' t1 t2 a b => ⟨ad, Y, P, T, tl', ea, hA, ⟨rfl, rfl, rfl⟩, hS, hU, mono hv, hr, hvP, ⟨t1, t2⟩, a, b⟩)) (fun _ => ?_)
  refine ifP (fun _ => ok_2 hA hS hU hG hv hr hvP htl hT hc hm (fun G' ad' M' Y' P' ea' iA e0 e70 e105 s u v r p a b => ⟨ad', Y', P', T, 0, ea', iA, ⟨e0, e70, e105⟩, s, u, mono v, r, p, ⟨Nat.zero_le _, fun k hk => absurd hk (Nat.not_lt_zero k)⟩, a, b⟩)) (fun _ => ?_)
  refine ifP (fun _ => ok_3 hA hn hc hm keep) (fun _ => ?_)
  refine ifP (fun _ => ok_4 hA hS hU hv hc hm grow) (fun _ => ?_)
  refine ifP (fun _ => ok_5 hA hS hv hc hm keep) (fun _ => ?_)
  refine ifP (fun _ => ok_6 hA hS hv hc hm keep) (fun _ => ?_)
  refine ifP (fun _ => ok_7 hA hS hv hc hm keep) (fun _ => ?_)
  refine ifP (fun _ => ok_8 hA hS hv hvP hc hm keep) (fun _ => ?_)
  refine ifP (fun _ => ok_9 hA hS hv (by omega) hc hm keep) (fun _ => ?_)
  refine ifP (fun _ => ok_10 hA hS hv hr hc hm yard) (fun _ => ?_)
  refine ifP (fun _ => ok_11 hA hS hv hr hc hm yard) (fun _ => ?_)
  refine ifP (fun _ => ok_12 hA hS hv hr hc hm yard) (fun _ => ?_)
  refine ifP (fun _ => ok_13 hA hS hv hr hc hm yard) (fun _ => ?_)
  refine ifP (fun _ => ok_14 hA hS hv hr hc hm yard) (fun _ => ?_)
  refine ifP (fun _ => ok_15 hA hS hG h70 hv (by omega) hr hvP hc hm (fun M' Y' a b c d e => ⟨ad, Y', P, T, tl, ea, hA, ⟨rfl, rfl, rfl⟩, hS, hU, vY_mono a (by omega), b, by rw [c]; exact hvP, ⟨htl, hT⟩, d, e⟩)) (fun _ => ?_)
  refine ifP (fun _ => ok_16 hA hS hG h70 hv (by omega) hr hvP hc hm keep) (fun _ => ?_)
  refine ifP (fun _ => ok_17 hA hS hG h70 hv (by omega) hr hvP hc hm keep) (fun _ => ?_)
  refine ifP (fun _ => ok_18 hA hS hG h70 hv (by omega) hr hvP hc hm keep) (fun _ => ?_)
  refine ifP (fun _ => ok_19 hA hS hG h70 hv (by omega) hr hvP hc hm keep) (fun _ => ?_)
  refine ifP (fun _ => ok_20 hA hS hv hc hm keep) (fun _ => ?_)
  refine ifP (fun _ => ok_21 hA hS hU hv (by omega) hvP hc hm grow) (fun _ => ?_)
  exact keep M hc hm
end Calls
