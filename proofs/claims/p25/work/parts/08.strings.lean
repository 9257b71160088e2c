section StrRows
variable {p : Program} {l : Launch} {e : Env} {R : Room} {s : State} {m : MethodId} {args : Array Value} {below : List Frame} {meth : Method} {c : Code} {H : Heap} {locs : List Loc} {cells slots : Nat} {Q : State → Prop} {cc : ByteArray} {own : String} {nL : Nat} {ret : Option FieldType} {Ts : List Cond} {D : va_G} {cy : cyS} {G : gS} {M M1 : mS} {A : Nat → Prop} {pc : Nat} {ls : Array Slot} {rest st0 : List Value} {a : Nat}
theorem r_sval (cx : cX p s m args meth c cc own nL ret Ts D cy G A) (w : wd D cy G M A s.heap H locs) {i index : Nat} (hi : i < 36) (hlink : Cond.fieldLink own index "java/lang/String" "value" "[B" ∈ Ts) (hdg : decode cc pc = .ok (.getfield index, 3))
    (kk : W p l e R s m args below meth c H locs cells slots Q (F0 m (pc + 3) ls (.ref (stV D i) :: rest))) : W p l e R s m args below meth c H locs cells slots Q (F0 m pc ls (.ref (stK D i) :: rest)) := by
  obtain ⟨hx, hb, hml, hown, hts, hr, hlocks, hK, hA, hG, hsx⟩ := id cx
  obtain ⟨h1, h2, h3, h4, h5, h6, h7, h8, h9, h10, h11, h12, h13⟩ := hsx.2.2.2.2.2.2
  exact vk_getf hx hb (h1.1 i hi).2.2.1 w.2.2 hown (hts _ hlink) (fun _ h => h) hdg kk
theorem r_scod (cx : cX p s m args meth c cc own nL ret Ts D cy G A) (w : wd D cy G M A s.heap H locs) {i index : Nat} (hi : i < 36) (hlink : Cond.fieldLink own index "java/lang/String" "coder" "B" ∈ Ts) (hdg : decode cc pc = .ok (.getfield index, 3))
    (kk : W p l e R s m args below meth c H locs cells slots Q (F0 m (pc + 3) ls (.int 0 :: rest))) : W p l e R s m args below meth c H locs cells slots Q (F0 m pc ls (.ref (stK D i) :: rest)) := by
  obtain ⟨hx, hb, hml, hown, hts, hr, hlocks, hK, hA, hG, hsx⟩ := id cx
  obtain ⟨h1, h2, h3, h4, h5, h6, h7, h8, h9, h10, h11, h12, h13⟩ := hsx.2.2.2.2.2.2
  exact vk_getf hx hb (h1.1 i hi).2.1 w.2.2 hown (hts _ hlink) (fun _ h => h) hdg kk
theorem r_blen (cx : cX p s m args meth c cc own nL ret Ts D cy G A) (w : wd D cy G M A s.heap H locs) {i : Nat} (hi : i < 36) (hdg : decode cc pc = .ok (.arraylength, 1))
    (kk : W p l e R s m args below meth c H locs cells slots Q (F0 m (pc + 1) ls (.int (Int32.ofNat (sN i)) :: rest))) : W p l e R s m args below meth c H locs cells slots Q (F0 m pc ls (.ref (stV D i) :: rest)) := by
  obtain ⟨hx, hb, hml, hown, hts, hr, hlocks, hK, hA, hG, hsx⟩ := id cx
  obtain ⟨h1, h2, h3, h4, h5, h6, h7, h8, h9, h10, h11, h12, h13⟩ := hsx.2.2.2.2.2.2
  exact va_tlen hx hb (h1.1 i hi).2.2.2 w.2.2 rfl hdg kk
theorem r_bald (cx : cX p s m args meth c cc own nL ret Ts D cy G A) (w : wd D cy G M A s.heap H locs) {i : Nat} {j : Int32} (hi : i < 36) (hin : vp_in j (sN i)) (hdg : decode cc pc = .ok (.baload, 1))
    (kk : W p l e R s m args below meth c H locs cells slots Q (F0 m (pc + 1) ls (.int (sB i j.toNatClampNeg) :: rest))) : W p l e R s m args below meth c H locs cells slots Q (F0 m pc ls (.int j :: .ref (stV D i) :: rest)) := by
  obtain ⟨hx, hb, hml, hown, hts, hr, hlocks, hK, hA, hG, hsx⟩ := id cx
  obtain ⟨h1, h2, h3, h4, h5, h6, h7, h8, h9, h10, h11, h12, h13⟩ := hsx.2.2.2.2.2.2
  exact va_tb hx hb (h1.1 i hi).2.2.2 w.2.2 hin rfl hdg kk
theorem r_getC (cx : cX p s m args meth c cc own nL ret Ts D cy G A) (w : wd D cy G M A s.heap H locs) {index : Nat} (hlink : Cond.fieldLink own index "java/lang/String" "COMPACT_STRINGS" "Z" ∈ Ts) (hdg : decode cc pc = .ok (.getstatic index, 3))
    (kk : W p l e R s m args below meth c H locs cells slots Q (F0 m (pc + 3) ls (.int 1 :: rest))) : W p l e R s m args below meth c H locs cells slots Q (F0 m pc ls rest) := by
  obtain ⟨hx, hb, hml, hown, hts, hr, hlocks, hK, hA, hG, hsx⟩ := id cx
  obtain ⟨h1, h2, h3, h4, h5, h6, h7, h8, h9, h10, h11, h12, h13⟩ := hsx.2.2.2.2.2.2
  exact va_gets hx hb h11 w.2.2 hown (hts _ hlink) (fun _ h => h) hdg kk
theorem r_getW0 (cx : cX p s m args meth c cc own nL ret Ts D cy G A) (w : wd D cy G M A s.heap H locs) {index : Nat} (hlink : Cond.fieldLink own index "FlagAntsLaw" "TURNS" "[Ljava/lang/String;" ∈ Ts) (hdg : decode cc pc = .ok (.getstatic index, 3))
    (kk : W p l e R s m args below meth c H locs cells slots Q (F0 m (pc + 3) ls (.ref (stW D 0) :: rest))) : W p l e R s m args below meth c H locs cells slots Q (F0 m pc ls rest) := by
  obtain ⟨hx, hb, hml, hown, hts, hr, hlocks, hK, hA, hG, hsx⟩ := id cx
  obtain ⟨h1, h2, h3, h4, h5, h6, h7, h8, h9, h10, h11, h12, h13⟩ := hsx.2.2.2.2.2.2
  exact va_gets hx hb h3 w.2.2 hown (hts _ hlink) (fun _ h => h) hdg kk
theorem r_wald0 (cx : cX p s m args meth c cc own nL ret Ts D cy G A) (w : wd D cy G M A s.heap H locs) {j : Int32} (hin : vp_in j 4) (hdg : decode cc pc = .ok (.aaload, 1))
    (kk : W p l e R s m args below meth c H locs cells slots Q (F0 m (pc + 1) ls (.ref (stK D (j.toNatClampNeg)) :: rest))) : W p l e R s m args below meth c H locs cells slots Q (F0 m pc ls (.int j :: .ref (stW D 0) :: rest)) := by
  obtain ⟨hx, hb, hml, hown, hts, hr, hlocks, hK, hA, hG, hsx⟩ := id cx
  obtain ⟨h1, h2, h3, h4, h5, h6, h7, h8, h9, h10, h11, h12, h13⟩ := hsx.2.2.2.2.2.2
  exact vb_tq hx hb h4 w.2.2 hin rfl hdg kk
theorem r_getW1 (cx : cX p s m args meth c cc own nL ret Ts D cy G A) (w : wd D cy G M A s.heap H locs) {index : Nat} (hlink : Cond.fieldLink own index "FlagAntsLaw" "SIDES" "[Ljava/lang/String;" ∈ Ts) (hdg : decode cc pc = .ok (.getstatic index, 3))
    (kk : W p l e R s m args below meth c H locs cells slots Q (F0 m (pc + 3) ls (.ref (stW D 1) :: rest))) : W p l e R s m args below meth c H locs cells slots Q (F0 m pc ls rest) := by
  obtain ⟨hx, hb, hml, hown, hts, hr, hlocks, hK, hA, hG, hsx⟩ := id cx
  obtain ⟨h1, h2, h3, h4, h5, h6, h7, h8, h9, h10, h11, h12, h13⟩ := hsx.2.2.2.2.2.2
  exact va_gets hx hb h5 w.2.2 hown (hts _ hlink) (fun _ h => h) hdg kk
theorem r_wald1 (cx : cX p s m args meth c cc own nL ret Ts D cy G A) (w : wd D cy G M A s.heap H locs) {j : Int32} (hin : vp_in j 4) (hdg : decode cc pc = .ok (.aaload, 1))
    (kk : W p l e R s m args below meth c H locs cells slots Q (F0 m (pc + 1) ls (.ref (stK D (4 + j.toNatClampNeg)) :: rest))) : W p l e R s m args below meth c H locs cells slots Q (F0 m pc ls (.int j :: .ref (stW D 1) :: rest)) := by
  obtain ⟨hx, hb, hml, hown, hts, hr, hlocks, hK, hA, hG, hsx⟩ := id cx
  obtain ⟨h1, h2, h3, h4, h5, h6, h7, h8, h9, h10, h11, h12, h13⟩ := hsx.2.2.2.2.2.2
  exact vb_tq hx hb h6 w.2.2 hin rfl hdg kk
theorem r_getD0 (cx : cX p s m args meth c cc own nL ret Ts D cy G A) (w : wd D cy G M A s.heap H locs) {index : Nat} (hlink : Cond.fieldLink own index "java/lang/Integer" "DigitOnes" "[B" ∈ Ts) (hdg : decode cc pc = .ok (.getstatic index, 3))
    (kk : W p l e R s m args below meth c H locs cells slots Q (F0 m (pc + 3) ls (.ref (stD D 0) :: rest))) : W p l e R s m args below meth c H locs cells slots Q (F0 m pc ls rest) := by
  obtain ⟨hx, hb, hml, hown, hts, hr, hlocks, hK, hA, hG, hsx⟩ := id cx
  obtain ⟨h1, h2, h3, h4, h5, h6, h7, h8, h9, h10, h11, h12, h13⟩ := hsx.2.2.2.2.2.2
  exact va_gets hx hb h7 w.2.2 hown (hts _ hlink) (fun _ h => h) hdg kk
theorem r_dald0 (cx : cX p s m args meth c cc own nL ret Ts D cy G A) (w : wd D cy G M A s.heap H locs) {j : Int32} (hin : vp_in j 100) (hdg : decode cc pc = .ok (.baload, 1))
    (kk : W p l e R s m args below meth c H locs cells slots Q (F0 m (pc + 1) ls (.int (f_D 0 j.toNatClampNeg) :: rest))) : W p l e R s m args below meth c H locs cells slots Q (F0 m pc ls (.int j :: .ref (stD D 0) :: rest)) := by
  obtain ⟨hx, hb, hml, hown, hts, hr, hlocks, hK, hA, hG, hsx⟩ := id cx
  obtain ⟨h1, h2, h3, h4, h5, h6, h7, h8, h9, h10, h11, h12, h13⟩ := hsx.2.2.2.2.2.2
  exact va_tb hx hb h8 w.2.2 hin rfl hdg kk
theorem r_getD1 (cx : cX p s m args meth c cc own nL ret Ts D cy G A) (w : wd D cy G M A s.heap H locs) {index : Nat} (hlink : Cond.fieldLink own index "java/lang/Integer" "DigitTens" "[B" ∈ Ts) (hdg : decode cc pc = .ok (.getstatic index, 3))
    (kk : W p l e R s m args below meth c H locs cells slots Q (F0 m (pc + 3) ls (.ref (stD D 1) :: rest))) : W p l e R s m args below meth c H locs cells slots Q (F0 m pc ls rest) := by
  obtain ⟨hx, hb, hml, hown, hts, hr, hlocks, hK, hA, hG, hsx⟩ := id cx
  obtain ⟨h1, h2, h3, h4, h5, h6, h7, h8, h9, h10, h11, h12, h13⟩ := hsx.2.2.2.2.2.2
  exact va_gets hx hb h9 w.2.2 hown (hts _ hlink) (fun _ h => h) hdg kk
theorem r_dald1 (cx : cX p s m args meth c cc own nL ret Ts D cy G A) (w : wd D cy G M A s.heap H locs) {j : Int32} (hin : vp_in j 100) (hdg : decode cc pc = .ok (.baload, 1))
    (kk : W p l e R s m args below meth c H locs cells slots Q (F0 m (pc + 1) ls (.int (f_D 1 j.toNatClampNeg) :: rest))) : W p l e R s m args below meth c H locs cells slots Q (F0 m pc ls (.int j :: .ref (stD D 1) :: rest)) := by
  obtain ⟨hx, hb, hml, hown, hts, hr, hlocks, hK, hA, hG, hsx⟩ := id cx
  obtain ⟨h1, h2, h3, h4, h5, h6, h7, h8, h9, h10, h11, h12, h13⟩ := hsx.2.2.2.2.2.2
  exact va_tb hx hb h10 w.2.2 hin rfl hdg kk
theorem r_xald (cx : cX p s m args meth c cc own nL ret Ts D cy G A) (w : wd D cy G M A s.heap H locs) {j : Int32} (hin : vp_in j (xL D)) (hdg : decode cc pc = .ok (.iaload, 1))
    (kk : W p l e R s m args below meth c H locs cells slots Q (F0 m (pc + 1) ls (.int (xS D j.toNatClampNeg) :: rest))) : W p l e R s m args below meth c H locs cells slots Q (F0 m pc ls (.int j :: .ref (stX D) :: rest)) := by
  obtain ⟨hx, hb, hml, hown, hts, hr, hlocks, hK, hA, hG, hsx⟩ := id cx
  obtain ⟨h1, h2, h3, h4, h5, h6, h7, h8, h9, h10, h11, h12, h13⟩ := hsx.2.2.2.2.2.2
  obtain ⟨⟨scr, g1, g2, g3, g4, g5⟩, g6⟩ := h13
  exact va_sld hx hb ⟨scr, g1, g2, g3, g4, g5⟩ (Array.getElem?_eq_some_iff.mp g1).1 g6 w.2.2 hin hdg kk
theorem r_xlen (cx : cX p s m args meth c cc own nL ret Ts D cy G A) (w : wd D cy G M A s.heap H locs)  (hdg : decode cc pc = .ok (.arraylength, 1))
    (kk : W p l e R s m args below meth c H locs cells slots Q (F0 m (pc + 1) ls (.int (Int32.ofNat (xL D)) :: rest))) : W p l e R s m args below meth c H locs cells slots Q (F0 m pc ls (.ref (stX D) :: rest)) := by
  obtain ⟨hx, hb, hml, hown, hts, hr, hlocks, hK, hA, hG, hsx⟩ := id cx
  obtain ⟨h1, h2, h3, h4, h5, h6, h7, h8, h9, h10, h11, h12, h13⟩ := hsx.2.2.2.2.2.2
  obtain ⟨⟨scr, g1, g2, g3, g4, g5⟩, g6⟩ := h13
  exact va_slen hx hb ⟨scr, g1, g2, g3, g4, g5⟩ (Array.getElem?_eq_some_iff.mp g1).1 g6 w.2.2 hdg kk
theorem r_ldcS (cx : cX p s m args meth c cc own nL ret Ts D cy G A) (w : wd D cy G M A s.heap H locs) {i index : Nat} (hi : i < 36) (ho : own = (sRef.getD i ("", 0, "")).1) (hq : index = (sRef.getD i ("", 0, "")).2.1) (hdg : decode cc pc = .ok (.ldc index, 2))
    (kk : W p l e R s m args below meth c H locs cells slots Q (F0 m (pc + 2) ls (.ref (stK D i) :: rest))) : W p l e R s m args below meth c H locs cells slots Q (F0 m pc ls rest) := by
  obtain ⟨hx, hb, hml, hown, hts, hr, hlocks, hK, hA, hG, hsx⟩ := id cx
  obtain ⟨h1, h2, h3, h4, h5, h6, h7, h8, h9, h10, h11, h12, h13⟩ := hsx.2.2.2.2.2.2
  subst hq
  rw [ho] at hown
  exact va_ldcS hx hb hown (h2 i hi) hdg kk
/-- a static that is null or an object, handed on -/
theorem r_getF (cx : cX p s m args meth c cc own nL ret Ts D cy G A) (w : wd D cy G M A s.heap H locs) {index : Nat} (hlink : Cond.fieldLink own index "jdk/internal/util/Preconditions" "SIOOBE_FORMATTER" "Ljava/util/function/BiFunction;" ∈ Ts) (hdg : decode cc pc = .ok (.getstatic index, 3))
    (kk : ∀ o : Option Nat, W p l e R s m args below meth c H locs cells slots Q (F0 m (pc + 3) ls (va_rf o :: rest))) : W p l e R s m args below meth c H locs cells slots Q (F0 m pc ls rest) := by
  obtain ⟨hx, hb, hml, hown, hts, hr, hlocks, hK, hA, hG, hsx⟩ := id cx
  obtain ⟨h1, h2, h3, h4, h5, h6, h7, h8, h9, h10, h11, h12, h13⟩ := hsx.2.2.2.2.2.2
  rcases h12 with hs | ⟨t, hs⟩
  · exact va_gets hx hb hs w.2.2 hown (hts _ hlink) (fun _ h => h) hdg (kk none)
  · exact va_gets hx hb hs w.2.2 hown (hts _ hlink) (fun _ h => h) hdg (kk (some t))
theorem vp_lt {i : Int32} {n : Nat} (h : vp_in i n) : i.toNatClampNeg < n := by
  unfold vp_in at h
  omega
theorem vp_ltw0 {i : Int32} (h : vp_in i 4) : i.toNatClampNeg < 36 := Nat.lt_trans (vp_lt h) (by decide)
theorem vp_ltw1 {i : Int32} (h : vp_in i 4) : 4 + i.toNatClampNeg < 36 := by
  have := vp_lt h
  omega
theorem z_char {v : Int32} (h : (v.toUInt32 % 65536).toInt32 = v) : narrow .char (.int v) = .int v := by
  have h1 := pk_nc v
  rw [h] at h1
  exact h1
theorem z_byte {v : Int32} (h : v.toInt8.toInt32 = v) : narrow .byte (.int v) = .int v := by
  have h1 := pk_nb v
  rw [h] at h1
  exact h1
theorem z_bfit {v : Int32} (h : v.toInt8.toInt32 = v) : fits .byte (.int v) = true := by
  have h1 := pk_fb v
  rw [h] at h1
  exact h1
theorem r_nret {ty : FieldType} (cx : cX p s m args meth c cc own nL (some ty) Ts D cy G A) (w : wd D cy G M A s.heap H locs) {M' : mS} {v r : Int32} (hn : narrow ty (.int v) = .int v) (h : some (M, v) = some (M', r)) (hdg : decode cc pc = .ok (.ireturn, 1)) : W p l e R s m args below meth c H locs cells slots (MQ below (va_Qi (fun (r' : Int32) (_ : Unit) => r' = r) (fun _ t => wOut D cy G M' t) A) args s cells slots A) (F0 m pc ls [.int v]) := by
  cases h
  obtain ⟨hx, hb, hml, hown, hts, hr, hlocks, hK, hA, hG, hsx⟩ := cx
  exact W.zret (ty := ty) hx hb hr hn (fun t ht hW => ⟨⟨v, (), rfl, rfl, by show va_P _ _ _ _; rw [ht]; exact w.1⟩, w.2.2.F ht⟩) w.2.2.2.2 hdg hlocks
variable {y : MethodName} {bytes : ByteArray} {maxL n index : Nat} {yret : Option FieldType} {ws : List Cond} {rm : Room} {As : List Value}
theorem r_callVTi (cx : cX p s m args meth c cc own nL ret Ts D cy G A) (w : wd D cy G M A s.heap H locs) (hcs : cells ≤ R.cells ∧ slots ≤ R.slots) (hls : ls.size = nL) {r : Int32} {i : Nat} (hi : i < 36) (hM : ctI l y ws rm D cy G M (.ref (stK D i) :: As) M1 r) (cw : CallW R s args own "java/lang/String" index y bytes maxL yret ws rm 0 0 n) (hn : As.length = n) (hst : st0 = As.reverse ++ .ref (stK D i) :: rest) (hW : (rest.map fun v => v.category).sum ≤ 8) (hdg : decode cc pc = .ok (.invokevirtual index, 3))
    (kk : ∀ (H1 : Heap) (locs1 : List Loc), wd D cy G M1 A s.heap H1 locs1 → W p l e R s m args below meth c H1 locs1 cells slots Q (F0 m (pc + 3) ls (.int r :: rest))) : W p l e R s m args below meth c H locs cells slots Q (F0 m pc ls st0) := by
  have fr := wd_free cx w
  obtain ⟨hx, hb, hml, hown, hts, hr, hlocks, hK, hA, hG, hsx⟩ := id cx
  have h1 := hsx.2.2.2.2.2.2.1
  refine va_calli (va_runV (As := As) (rest := rest) ⟨hx, hb, hml, hown, hts⟩ (hM H.size) cw ⟨blind _ D cy G M H.size, vk_recv h1 hi w.2.2, wd_pre cx w _⟩ rfl hn hls hst (lv_room hW) hdg hcs) w.2.2 (fun q _ h => fr q h) fr (fun r1 u t H1 locs1 ht hvm hq hB hz1 hk1 hS => ?_)
  subst hq
  have hP1 : va_P D vwCl (pl cy G M1) t.heap := hB
  rw [ht] at hP1
  exact kk H1 locs1 ⟨hP1, pl_D w.2.1 (pl_in w.2.1), hS⟩
end StrRows
