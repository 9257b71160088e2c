/-! texts in the making -/
/-- places of a that may be bytes -/
def BY (M : mS) (a n : Nat) : Prop := ∀ k, k < n → ∃ c, c < 128 ∧ mI M a k = zn c
theorem fits_b : ∀ c : Nat, c < 128 → fits .byte (.int (zn c)) = true := by decide
/-- a builder: a of role r, its row v of role r + 1 and of so many places, the text L -/
def TB (G : gS) (M : mS) (rl : Nat → Nat) (r a v cap : Nat) (L : List Nat) : Prop := (a ∈ gL G ∧ rl a = r) ∧ (gP G a 0 = some v ∧ v ∈ gL G ∧ rl v = r + 1 ∧ gN G v = cap) ∧ mI M a 1 = 0 ∧ mI M a 3 = zn L.length ∧ L.length ≤ cap ∧ cap < 1000000 ∧ BY M v cap ∧ ∀ k, k < L.length → mI M v k = zn (L.getD k 0)
/-- what stays: all but what has role r or r + 1 -/
def Kt (r : Nat) (G : gS) (M : mS) (rl : Nat → Nat) (G' : gS) (M' : mS) (rl' : Nat → Nat) : Prop := ∀ x, x ∈ gL G → x ∈ gL G' ∧ gK G' x = gK G x ∧ gN G' x = gN G x ∧ rl' x = rl x ∧ (rl x ≠ r → rl x ≠ r + 1 → gP G' x = gP G x ∧ mI M' x = mI M x ∧ mJ M' x = mJ M x)
theorem Kt_rf {r : Nat} {G : gS} {M : mS} {rl : Nat → Nat} : Kt r G M rl G M rl := fun _ hx => ⟨hx, rfl, rfl, rfl, fun _ _ => ⟨rfl, rfl, rfl⟩⟩
theorem Kt_tr {r : Nat} {G G1 G2 : gS} {M M1 M2 : mS} {r0 r1 r2 : Nat → Nat} (h : Kt r G M r0 G1 M1 r1) (h2 : Kt r G1 M1 r1 G2 M2 r2) : Kt r G M r0 G2 M2 r2 := fun x hx => by
  obtain ⟨a1, a2, a3, a4, a5⟩ := h x hx
  obtain ⟨b1, b2, b3, b4, b5⟩ := h2 x a1
  refine ⟨b1, b2.trans a2, b3.trans a3, b4.trans a4, fun n1 n2 => ?_⟩
  obtain ⟨c1, c2, c3⟩ := a5 n1 n2
  obtain ⟨d1, d2, d3⟩ := b5 (by rw [a4]; exact n1) (by rw [a4]; exact n2)
  exact ⟨d1.trans c1, d2.trans c2, d3.trans c3⟩
theorem Kt_nw {r : Nat} {G : gS} {M : mS} {rl : Nat → Nat} {q k n s : Nat} (hq : q ∉ gL G) : Kt r G M rl (gNw G q k n) (wZ M q) (rU rl q s) := fun x hx => by
  have ne := mem_ne hx hq
  exact ⟨List.mem_append_left _ hx, up_ne ne, up_ne ne, rU_ne ne, fun _ _ => ⟨up_ne ne, up_ne ne, up_ne ne⟩⟩
theorem Kt_st {r : Nat} {G : gS} {M : mS} {rl : Nat → Nat} {a j s : Nat} (ha : rl a = r) : Kt r G M rl (gSt G a j s) M rl := fun x hx => ⟨hx, rfl, rfl, rfl, fun n1 _ => ⟨up_ne (fun e => n1 (e ▸ ha)), rfl, rfl⟩⟩
theorem Kt_wI {r : Nat} {G : gS} {M : mS} {rl : Nat → Nat} {a j : Nat} {v : Int32} (ha : rl a = r ∨ rl a = r + 1) : Kt r G M rl G (wI M a j v) rl := fun x hx => ⟨hx, rfl, rfl, rfl, fun n1 n2 => ⟨rfl, mI_ne (fun e => ha.elim (fun z => n1 (e ▸ z)) (fun z => n2 (e ▸ z))), rfl⟩⟩
theorem Kt_wC {r : Nat} {G : gS} {M : mS} {rl : Nat → Nat} {a : Nat} {f : Nat → Int32} (ha : rl a = r ∨ rl a = r + 1) : Kt r G M rl G (wC M a f) rl := fun x hx => ⟨hx, rfl, rfl, rfl, fun n1 n2 => ⟨rfl, by rw [mI_wC, if_neg (fun (e : x = a) => ha.elim (fun z => n1 (e ▸ z)) (fun z => n2 (e ▸ z)))], rfl⟩⟩
/-- a shift by nothing -/
theorem sh_0 {x : Int32} : x >>> ((0 : Int32) &&& 31) = x ∧ x <<< ((0 : Int32) &&& 31) = x := by
  constructor
  · rw [show ((0 : Int32) &&& 31) = 0 from by decide, ← Int32.toBitVec_inj, Int32.toBitVec_shiftRight]
    simp
  · rw [show ((0 : Int32) &&& 31) = 0 from by decide, ← Int32.toBitVec_inj, Int32.toBitVec_shiftLeft]
    simp
/-- how many places come of it -/
def apN (cap need : Nat) : Nat := if need ≤ cap then cap else if need < 2 * cap + 2 then 2 * cap + 2 else need
def apC (cap need : Nat) : uS := if need ≤ cap then (0, 0) else (1, apN cap need)
theorem i_wC {M : mS} {a : Nat} {f : Nat → Int32} {k : mS → Prop} (H : k (wC M a f)) : p_wC M a f k := H
section Sb
variable {G : gS} {M : mS} {rl : Nat → Nat} {r a v cap : Nat} {L : List Nat} {b u : uS}
theorem cpyv_at {f g : Nat → Int32} {n k : Nat} : va_cpy f g 0 0 n k = if k < n then f k else g k := by
  unfold va_cpy
  by_cases e : k < n
  · rw [if_pos e, if_pos (by omega)]
    congr 1
    omega
  · rw [if_neg e, if_neg (by omega)]
/-- room is made -/
theorem j_room (h : TB G M rl r a v cap L) {need : Nat} (hn : need < 400000) (hc : cap < 400000) {post : gS → mS → Unit → Prop} (hB : uL (apC cap need) b) (hk : ∀ G' M' rl' v', Kt r G M rl G' M' rl' → TB G' M' rl' r a v' (apN cap need) L → post G' M' ()) : n_J5_ensureCapacityInternal_d00df b G M a (zn need) post := by
  obtain ⟨⟨a1, a2⟩, ⟨v1, v2, v3, v4⟩, c0, l0, lc, c6, by0, tx⟩ := h
  have h : TB G M rl r a v cap L := ⟨⟨a1, a2⟩, ⟨v1, v2, v3, v4⟩, c0, l0, lc, c6, by0, tx⟩
  unfold n_J5_ensureCapacityInternal_d00df nb_J5_ensureCapacityInternal_d00df_38
  refine i_rf v1 (i_bd ?_)
  rw [v4, c0, sh_0.1]
  by_cases e : need ≤ cap
  · have e1 : apN cap need = cap := by unfold apN; rw [if_pos e]
    rw [e1] at hk
    refine i_t ?_ (hk G M rl v Kt_rf h)
    rw [Int32.le_iff_toInt_le]
    have hs : (zn need - Int32.ofNat cap).toInt = (need : Int) - cap := by
      rw [Int32.toInt_sub, zn_toInt (by omega), show (Int32.ofNat cap).toInt = (cap : Int) from zn_toInt (by omega)]
      rw [Int.bmod_eq_of_le (by omega) (by omega)]
    rw [hs]
    show (need : Int) - cap ≤ 0
    omega
  · have e1 : apN cap need = if need < 2 * cap + 2 then 2 * cap + 2 else need := by unfold apN; rw [if_neg e]
    have e2 : apC cap need = (1, apN cap need) := by unfold apC; rw [if_neg e]
    have hap : cap < apN cap need ∧ apN cap need < 1000000 := by
      rw [e1]
      split <;> omega
    rw [e2] at hB
    have hsub : zn need - Int32.ofNat cap = zn (need - cap) := zn_sub (by omega)
    refine i_f (by rw [hsub, show (0 : Int32) = zn 0 from rfl, zn_le (by omega) (by omega)]; omega) (i_rf v1 (i_ca0 ⟨Nat.zero_le _, Nat.zero_le _⟩ ?_))
    unfold n_J5_newCapacity_0f7a4 n_J8_newLength_cabcc
    refine i_rf v1 (i_bd ?_)
    rw [v4, c0, sh_0.2, sh_0.2]
    have hmax : Int32.ofNat cap + (if zn (need - cap) < Int32.ofNat cap + (2 : Int32) then Int32.ofNat cap + (2 : Int32) else zn (need - cap)) = zn (apN cap need) := by
      rw [e1, show Int32.ofNat cap + (2 : Int32) = zn (cap + 2) from zn_add cap 2]
      by_cases k : need - cap < cap + 2
      · rw [if_pos ((zn_lt (by omega) (by omega)).mpr k), if_pos (by omega), show Int32.ofNat cap + zn (cap + 2) = zn (cap + (cap + 2)) from zn_add _ _]
        congr 1
        omega
      · rw [if_neg (fun z => k ((zn_lt (by omega) (by omega)).mp z)), if_neg (by omega), show Int32.ofNat cap + zn (need - cap) = zn (cap + (need - cap)) from zn_add _ _]
        congr 1
        omega
    refine i_bd (i_bd (i_ca0 ⟨Nat.zero_le _, Nat.zero_le _⟩ (i_bd ?_)))
    rw [hsub, hmax]
    refine i_f (by rw [show (0 : Int32) = zn 0 from rfl, zn_le (by omega) (by omega)]; omega) (i_f (by rw [show (2147483639 : Int32) = zn 2147483639 from rfl, zn_lt (by omega) (by omega)]; omega) (i_f (fun z => ?_) ?_))
    · have := (zn_inj (a := apN cap need) (b := 2147483647) (by omega) (by omega)).mp z
      omega
    · rw [c0, sh_0.1]
      refine ⟨(1, apN cap need), ?_, ?_⟩
      · exact ⟨Nat.le_trans (Nat.le_of_eq (Nat.zero_add _)) hB.1, Nat.le_trans (Nat.le_of_eq (Nat.zero_add _)) hB.2⟩
      · rw [c0, sh_0.2]
        unfold n_J7_copyOf_9075b
        rw [v4]
        refine i_f (fun z => ?_) (i_na (N := apN cap need) rfl (by omega) ⟨Nat.le_of_eq (Nat.zero_add _), Nat.le_of_eq (Nat.zero_add _)⟩ (fun x hx => ?_))
        · have := (zn_inj (a := apN cap need) (b := cap) (by omega) (by omega)).mp z
          omega
        · have nvx : v ≠ x := mem_ne v2 hx
          have nax : a ≠ x := mem_ne a1 hx
          have gv : gN (gNw G x 16 (apN cap need)) v = cap := (up_ne nvx).trans v4
          rw [gv, wZ_ne nvx]
          have hmin : (if zn (apN cap need) < Int32.ofNat cap then zn (apN cap need) else Int32.ofNat cap) = zn cap := if_neg (fun z => by
            have := (zn_lt (a := apN cap need) (b := cap) (by omega) (by omega)).mp z
            omega)
          rw [hmin, zn_nat (by omega), nat_0, gN_nw]
          refine ⟨⟨by decide, by decide, zn_nn (by omega), ?_, ?_, fun i hi => ?_⟩, ?_⟩
          · rw [nat_0, zn_nat (by omega)]; omega
          · rw [nat_0, zn_nat (by omega)]; omega
          · rw [zn_nat (by omega)] at hi
            rw [nat_0, Nat.zero_add]
            obtain ⟨c, hc1, hc2⟩ := by0 i hi
            rw [hc2]
            exact fits_b c hc1
          · have raR : rU rl x (r + 1) a = r := by rw [rU_ne nax]; exact a2
            refine i_wC (i_sR (hk _ _ (rU rl x (r + 1)) x (Kt_tr (Kt_nw (k := 16) (n := apN cap need) hx) (Kt_tr (Kt_wC (Or.inr rU_eq)) (Kt_st raR))) ⟨⟨List.mem_append_left _ a1, raR⟩, ⟨by rw [gSt_eq, if_pos rfl], gL_nw (k := 16) (n := apN cap need), rU_eq, gN_nw (k := 16)⟩, ?_, ?_, by omega, by omega, fun k hk2 => ?_, fun k hk2 => ?_⟩))
            · rw [mI_wC, if_neg nax, wZ_ne nax]; exact c0
            · rw [mI_wC, if_neg nax, wZ_ne nax]; exact l0
            · rw [mI_wC, if_pos rfl, cpyv_at]
              by_cases kc : k < cap
              · rw [if_pos kc]; exact by0 k kc
              · rw [if_neg kc, wZ_eq]; exact ⟨0, by decide, rfl⟩
            · rw [mI_wC, if_pos rfl, cpyv_at, if_pos (by omega)]
              exact tx k hk2
end Sb
