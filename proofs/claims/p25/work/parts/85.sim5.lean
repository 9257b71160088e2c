/-! the yard by hand: an ant goes -/
/-- a step more in the path -/
def anPush (A : aA) : aA := (an_r A, an_x A, an_y A, an_s A, an_w A, an_t A + 1, an_n A + 1, fun k => if k = an_n A then an_s A else an_h A k)
def anSide (s : Nat) (A : aA) : aA := (an_r A, an_x A, an_y A, s, an_w A, an_t A, an_n A, an_h A)
def anPos (x y : Nat) (A : aA) : aA := (an_r A, x, y, an_s A, an_w A, an_t A, an_n A, an_h A)
def anTime (A : aA) : aA := (an_r A, an_x A, an_y A, an_s A, an_w A, an_t A + 1, an_n A, an_h A)
theorem anGo_e {t : Nat} {A : aA} : anGo t A = anPush (anPos (nx (an_x A) ((an_s A + tb t) % 4)) (ny (an_y A) ((an_s A + tb t) % 4)) (anSide ((an_s A + tb t) % 4) A)) := rfl
theorem ya_at {i : Nat} {A : aA} {Y : aY} : yd_a (aAnt i A Y) i = A := if_pos rfl
section SimGo
variable {G : gS} {M : mS} {rl : Nat → Nat} {o : Nat} {S : sA} {P : aP} {q : Nat → Nat → Nat} {Y : aY} {b u : uS} {bb : Nat} {post : gS → mS → Unit → Prop} {kb56 : uS → gS → mS → Int32 → Prop}
theorem g_231 (hb : SGb P (yd_n Y)) (h : SM G M rl o S P q Y) {i : Nat} (hi : i < yd_n Y) (hN : an_n (yd_a Y i) ≤ 100000) (hB : uL (uP u (1, an_n (yd_a Y i) + 1)) b) (hk : ∀ G' M' rl' S', Kp G M rl G' M' rl' → SE S S' → SM G' M' rl' o S' P q (aAnt i (anPush (yd_a Y i)) Y) → kb56 (uP u (1, an_n (yd_a Y i) + 1)) G' M' (zn (i + 1))) : nb_X10_go_231 b o kb56 post u G M (zn i) (sra S i) := by
  have hi2 := hb.2.1
  obtain ⟨_, hna⟩ := SM_a h hi
  obtain ⟨hqp, hnp⟩ := SM_p h hi
  obtain ⟨_, ra2, _, ra4, _⟩ := h.1.2.2.2.2.1 i hi
  obtain ⟨_, rp2, _, rp4, _⟩ := h.1.2.2.2.2.2.1 i hi
  have hAr := SM_ar h hi
  have hpt := (h.2.2.2.1 i hi).2
  have nep : srp S i ≠ sra S i := rl_ne (rl := rl) (by omega)
  have sia : Si rl (sra S i) := by unfold Si; rw [ra4]; omega
  have hin : vp_in (zn i) (gN G (sg S 3)) := by rw [(SM_n h).2.2.2.1]; exact zn_in hi (by omega)
  have hi5 : vp_in (5 : Int32) (gN G (sra S i)) := by rw [hna]; exact vi_5 (by decide) (by decide)
  have h1 : SM G (wI M (sra S i) 5 (zn (an_t (yd_a Y i) + 1))) rl o S P q (aAnt i (anTime (yd_a Y i)) Y) := by
    refine SM_ant hb h hi (fun y hy => mI_ne hy) ?_ rfl (fun _ _ => rfl)
    unfold aRow
    rw [mI_eq, mI_eq, mI_eq, mI_eq, mI_eq, mI_eq, if_neg (by decide), if_neg (by decide), if_neg (by decide), if_neg (by decide), if_neg (by decide), if_pos rfl]
    exact ⟨hAr.1, hAr.2.1, hAr.2.2.1, hAr.2.2.2.1, hAr.2.2.2.2.1, rfl⟩
  have hb1 : SGb P (yd_n (aAnt i (anTime (yd_a Y i)) Y)) := hb
  unfold nb_X10_go_231 nb_X10_go_292
  rw [nat_5, nat_3, zn_nat (by omega), hAr.2.2.2.2.2, show zn (an_t (yd_a Y i)) + (1 : Int32) = zn (an_t (yd_a Y i) + 1) from zn_one _]
  refine i_ix hi5 (i_ix hi5 (i_wI (i_rf (SM_f h (i := 3) (by decide)) (i_ix hin (i_rf hqp ?_)))))
  rw [hnp]
  refine i_na (N := an_n (yd_a Y i) + 1) (zn_one _) (by omega) hB (fun x hx => ?_)
  have h2 := SM_nw (r := 4000 + i) (k := 12) (n := an_n (yd_a Y i) + 1) hb1 h1 hx
  have nxp : srp S i ≠ x := mem_ne rp2 hx
  have nxa : sra S i ≠ x := mem_ne ra2 hx
  obtain ⟨hqp2, hnp2⟩ := SM_p h2 (i := i) hi
  have hnp3 : gN (gNw G x 12 (an_n (yd_a Y i) + 1)) (srp S i) = an_n (yd_a Y i) := by
    rw [hnp2, ya_at]; rfl
  have hin2 : vp_in (zn i) (gN (gNw G x 12 (an_n (yd_a Y i) + 1)) (sg S 3)) := by rw [(SM_n h2).2.2.2.1]; exact zn_in hi (by show yd_n Y ≤ _; omega)
  have hi3 : vp_in (3 : Int32) (gN (gNw G x 12 (an_n (yd_a Y i) + 1)) (sra S i)) := by
    rw [(SM_a h2 (i := i) hi).2]; exact vi_3 (by decide) (by decide)
  have hf := SM_f h2 (i := 3) (by decide)
  refine i_rf hf (i_ix hin2 (i_rf hqp2 (i_rf hf (i_ix hin2 (i_rf hqp2 (i_ck ?_ (show p_wC _ _ _ _ from i_rf hf (i_ix hin2 (i_rf hqp2 (i_ix hi3 ?_))))))))))
  · rw [hnp3, gN_nw]
    refine ⟨zn_nn (by omega), ?_, ?_⟩
    · rw [zn_nat (by omega)]; exact Nat.le_refl _
    · rw [zn_nat (by omega)]; omega
  · rw [hnp3, gN_nw]
    refine i_ix (zn_in (by omega) (by omega)) ?_
    rw [zn_nat (by omega)]
    refine i_wI (i_rf hf (i_ix hin2 (i_sR (i_bd ?_))))
    rw [show zn i + (1 : Int32) = zn (i + 1) from zn_one i]
    refine hk _ _ (rU rl x (4000 + i)) (stP S i x) ?_ ⟨rfl, rfl, rfl, rfl⟩ ?_
    · refine Kp_tr (Kp_wI sia) (Kp_tr (Kp_wIn (Kp_wCn (Kp_nw (r := 4000 + i) hx) hx) hx) (Kp_st ?_))
      exact (SGo_g h2.1.1 (i := 3) (by decide)).2.1
    · have h3 := SM_cg (rl' := rU rl x (4000 + i)) (G' := gNw G x 12 (an_n (yd_a Y i) + 1)) (M' := wI (wC (wZ (wI M (sra S i) 5 (zn (an_t (yd_a Y i) + 1))) x) x (cpy0 (mI (wZ (wI M (sra S i) 5 (zn (an_t (yd_a Y i) + 1))) x) (srp S i)) (mI (wZ (wI M (sra S i) 5 (zn (an_t (yd_a Y i) + 1))) x) x) (an_n (yd_a Y i)))) x (an_n (yd_a Y i)) (mI (wC (wZ (wI M (sra S i) 5 (zn (an_t (yd_a Y i) + 1))) x) x (cpy0 (mI (wZ (wI M (sra S i) 5 (zn (an_t (yd_a Y i) + 1))) x) (srp S i)) (mI (wZ (wI M (sra S i) 5 (zn (an_t (yd_a Y i) + 1))) x) x) (an_n (yd_a Y i)))) (sra S i) 3)) hb1 h1 (GK_nw hx) (fun y hy _ => by
        have ne := mem_ne hy hx
        rw [mI_ne ne, mI_wC, if_neg ne, wZ_ne ne])
      have hA3 := SM_ar h3 (i := i) hi
      rw [ya_at] at hA3
      have h4 := SM_path h3 (i := i) hi (A := anPush (yd_a Y i)) gL_nw gK_nw rU_eq gN_nw hA3 (fun k hk => by
        rw [mI_eq]
        show _ = zn (if k = an_n (yd_a Y i) then an_s (yd_a Y i) else an_h (yd_a Y i) k)
        by_cases e : k = an_n (yd_a Y i)
        · rw [if_pos e, if_pos e, mI_wC, if_neg nxa, wZ_ne nxa, mI_eq, if_neg (by decide)]
          exact hAr.2.2.2.1
        · have hk2 : k < an_n (yd_a Y i) := by
            have hk3 : k < an_n (yd_a Y i) + 1 := hk
            omega
          rw [if_neg e, if_neg e, mI_wC, if_pos rfl, cpy0_at hk2, wZ_ne nxp, mI_ne nep]
          exact hpt k hk2)
      rw [aAnt_aAnt] at h4
      exact h4
end SimGo
