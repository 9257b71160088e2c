theorem zrc {r c : Nat} : zn r * 64 + zn c = zn (64 * r + c) := by rw [show zn r * 64 = zn (r * 64) from zn_mul r 64, zn_add, Nat.mul_comm]
theorem zrc' {r c : Nat} : (64 : Int32) * zn r + zn c = zn (64 * r + c) := by rw [show (64 : Int32) * zn r = zn (64 * r) from zn_mul 64 r, zn_add]
theorem lg_same {x : Int64} : lg_cmp x x = 0 := by
  unfold lg_cmp
  rw [if_neg (Int64.lt_irrefl), if_pos rfl]
theorem vY_mono {b b' : Nat} {Y : aY} (h : vY b Y) (hb : b ≤ b') : vY b' Y := ⟨h.1, h.2.1, fun i hi => ⟨(h.2.2 i hi).1, Nat.le_trans (h.2.2 i hi).2 hb⟩⟩
theorem dk_le {c : Nat → Nat} : dk c ≤ 4096 := nz_le 4096
theorem SB_0 {ad : Nat → Nat} {y : Nat} {M M' : mS} (h : Fr (SB ad y) M M') (hy : y + 17 ≤ 66) : Fr (Bk ad 0 66) M M' := Fr_mono h (fun _ q => q.elim (Bk_sub (by omega) (by omega)) (Bk_sub (by omega) (by omega)))
section Pub
variable {G : gS} {ad : Nat → Nat} {M : mS} {Y : aY} {P : aP} {T : Nat → Nat} {tl b : Nat} {ea : Int32}
theorem CA_ant (hA : Inj ad) (hv : vY b Y) (hc : CA ad M Y P T tl ea) {i : Nat} (hi : i < yd_n Y) {M' : mS} {A : aA} (h1 : cA ad M' (21 + 5 + 2 * i) A) (h2 : Fr (Bk ad (21 + 5 + 2 * i) (21 + 5 + 2 * i + 2)) M M') : CA ad M' (aAnt i A Y) P T tl ea ∧ Fr (Bk ad 0 66) M M' := by
  have hn := hv.2.1
  exact ⟨CA_y hc (cY_ant1 hA hn hi hc.1 h1 h2) (fun k hk => Fr_I hA h2 (by omega)) (Fr_J hA h2 (by omega)), Fr_sub h2 (by omega) (by omega)⟩
theorem CA_ant0 (hA : Inj ad) (hv : vY b Y) (hc : CA ad M Y P T tl ea) {i : Nat} (hi : i < yd_n Y) {M' : mS} (h1 : cA ad M' (21 + 5 + 2 * i) (yd_a Y i)) (h2 : Fr (Bk ad (21 + 5 + 2 * i) (21 + 5 + 2 * i + 2)) M M') : CA ad M' Y P T tl ea ∧ Fr (Bk ad 0 66) M M' := by
  have hn := hv.2.1
  exact ⟨CA_y hc (cY_ant0 hA hn hi hc.1 h1 h2) (fun k hk => Fr_I hA h2 (by omega)) (Fr_J hA h2 (by omega)), Fr_sub h2 (by omega) (by omega)⟩
theorem CA_own (hA : Inj ad) {M' : mS} {Y' : aY} (h : CA ad M Y P T tl ea) (hc : cY ad M' 21 Y') (hF : Fr (SB ad 21) M M') : CA ad M' Y' P T tl ea := CA_y h hc (fun k hk => SB_I hA hF (by omega) (by omega)) (SB_J hA hF (by omega) (by omega))
theorem CA_trial (hA : Inj ad) {M' : mS} (hn : yd_n Y ≤ 6) (h : CA ad M Y P T tl ea) (hF : Fr (SB ad 38) M M') : CA ad M' Y P T tl ea := CA_keep hn h (fun k hk => SB_I hA hF (by omega) (by omega)) (SB_J hA hF (by omega) (by omega))
/-- the class's trial yard as the yard is -/
theorem c_try (hA : Inj ad) (hS : Sh G ad) (hv : vY b Y) (hc : CA ad M Y P T tl ea) : p_cl (m_X8_copyFrom G M (ad 38) (ad 21)) (fun M1 _ => cY ad M1 38 Y ∧ CA ad M1 Y P T tl ea ∧ Fr (SB ad 38) M M1) := by
  refine c_mono (cY_copy hA (sh_Y38 hS) (sh_Y21 hS) (by omega) hv hc.1) ?_
  rintro M1 _ ⟨g1, g2⟩
  have hF := SB_y (y := 38) g2 (by omega) (by omega)
  exact ⟨g1, CA_trial hA hv.2.1 hc hF, hF⟩
end Pub
