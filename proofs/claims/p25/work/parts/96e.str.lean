/-! texts in the making: a new one; what is made of it -/
/-- a made text: q of role r, its row w of role r + 1 -/
def PS (G : gS) (M : mS) (rl : Nat → Nat) (r q w : Nat) (L : List Nat) : Prop := (q ∈ gL G ∧ rl q = r) ∧ (gP G q 0 = some w ∧ w ∈ gL G ∧ rl w = r + 1 ∧ gN G w = L.length) ∧ mI M q 1 = 0 ∧ ∀ k, k < L.length → mI M w k = zn (L.getD k 0)
theorem Kt_wIn {r : Nat} {G0 G : gS} {M0 M : mS} {r0 rl : Nat → Nat} {a j : Nat} {v : Int32} (h : Kt r G0 M0 r0 G M rl) (ha : a ∉ gL G0) : Kt r G0 M0 r0 G (wI M a j v) rl := fun x hx => by
  obtain ⟨a1, a2, a3, a4, a5⟩ := h x hx
  exact ⟨a1, a2, a3, a4, fun n1 n2 => ⟨(a5 n1 n2).1, by rw [mI_ne (mem_ne hx ha)]; exact (a5 n1 n2).2.1, (a5 n1 n2).2.2⟩⟩
theorem Kt_wCn {r : Nat} {G0 G : gS} {M0 M : mS} {r0 rl : Nat → Nat} {a : Nat} {f : Nat → Int32} (h : Kt r G0 M0 r0 G M rl) (ha : a ∉ gL G0) : Kt r G0 M0 r0 G (wC M a f) rl := fun x hx => by
  obtain ⟨a1, a2, a3, a4, a5⟩ := h x hx
  exact ⟨a1, a2, a3, a4, fun n1 n2 => ⟨(a5 n1 n2).1, by rw [mI_wC, if_neg (mem_ne hx ha)]; exact (a5 n1 n2).2.1, (a5 n1 n2).2.2⟩⟩
theorem Kt_stn {r : Nat} {G0 G : gS} {M0 M : mS} {r0 rl : Nat → Nat} {a j s : Nat} (h : Kt r G0 M0 r0 G M rl) (ha : a ∉ gL G0) : Kt r G0 M0 r0 (gSt G a j s) M rl := fun x hx => by
  obtain ⟨a1, a2, a3, a4, a5⟩ := h x hx
  exact ⟨a1, a2, a3, a4, fun n1 n2 => ⟨(gSt_ne (mem_ne hx ha)).trans (a5 n1 n2).1, (a5 n1 n2).2.1, (a5 n1 n2).2.2⟩⟩
section StrSec
variable {G : gS} {M : mS} {rl : Nat → Nat} {r a v cap : Nat} {L S : List Nat} {b u : uS}
/-- an empty text -/
theorem j_init (a1 : a ∈ gL G) (a2 : rl a = r) (a3 : mI M a 3 = 0) {post : gS → mS → Unit → Prop} (hB : uL (1, 16) b) (hk : ∀ G' M' rl' v', Kt r G M rl G' M' rl' → TB G' M' rl' r a v' 16 [] → post G' M' ()) : n_J4_init_da8c8 b G M a post := by
  unfold n_J4_init_da8c8
  refine ⟨(1, 16), ⟨Nat.le_trans (Nat.le_of_eq (Nat.zero_add _)) hB.1, Nat.le_trans (Nat.le_of_eq (Nat.zero_add _)) hB.2⟩, ?_⟩
  unfold n_J5_init_d00df nb_J5_init_d00df_38
  refine i_f (by decide) (i_na (N := 16) rfl (by decide) ⟨Nat.le_of_eq (Nat.zero_add _), Nat.le_of_eq (Nat.zero_add _)⟩ (fun x hx => i_sR (i_ck (by decide) (i_wI ?_))))
  have nax : a ≠ x := mem_ne a1 hx
  have nxa : x ≠ a := fun e => nax e.symm
  have raR : rU rl x (r + 1) a = r := by rw [rU_ne nax]; exact a2
  refine hk _ _ (rU rl x (r + 1)) x (Kt_tr (Kt_nw (k := 16) (n := 16) hx) (Kt_tr (Kt_st (M := wZ M x) raR) (Kt_wI (Or.inl raR)))) ⟨⟨List.mem_append_left _ a1, raR⟩, ⟨by rw [gSt_eq, if_pos rfl], gL_nw (k := 16) (n := 16), rU_eq, gN_nw (k := 16)⟩, ?_, ?_, by decide, by decide, fun k hk2 => ?_, fun k hk2 => absurd hk2 (Nat.not_lt_zero k)⟩
  · rw [mI_eq, if_pos rfl]
  · rw [mI_eq, if_neg (by decide), wZ_ne nax, a3]; rfl
  · rw [mI_ne nxa, wZ_eq]; exact ⟨0, by decide, rfl⟩
end StrSec
