section StrRows
variable {p : Program} {l : Launch} {e : Env} {R : Room} {s : State} {m : MethodId} {args : Array Value} {below : List Frame} {meth : Method} {c : Code} {H : Heap} {locs : List Loc} {cells slots : Nat} {Q : State → Prop} {cc : ByteArray} {own : String} {nL : Nat} {ret : Option FieldType} {Ts : List Cond} {D : va_G} {cy : cyS} {G : gS} {M M1 : mS} {A : Nat → Prop} {pc : Nat} {ls : Array Slot} {rest st0 : List Value} {a : Nat}
theorem r_sval (cx : cX p s m args meth c cc own nL ret Ts D cy G A) (w : wd D cy G M A s.heap H locs) {i index : Nat} (hi : i < 35) (hlink : Cond.fieldLink own index "java/lang/String" "value" "[B" ∈ Ts) (hdg : decode cc pc = .ok (.getfield index, 3))
    (kk : W p l e R s m args below meth c H locs cells slots Q (F0 m (pc + 3) ls (.ref (stV D i) :: rest))) : W p l e R s m args below meth c H locs cells slots Q (F0 m pc ls (.ref (stK D i) :: rest)) := by
  obtain ⟨hx, hb, hml, hown, hts, hr, hlocks, hK, hA, hG, hsx⟩ := id cx
  have hs := hsx.2.2.2.2.2.2.2
  exact vk_getf hx hb (hs.1.1 i hi).2.2.1 w.2.2 hown (hts _ hlink) (fun _ h => h) hdg kk
theorem r_scod (cx : cX p s m args meth c cc own nL ret Ts D cy G A) (w : wd D cy G M A s.heap H locs) {i index : Nat} (hi : i < 35) (hlink : Cond.fieldLink own index "java/lang/String" "coder" "B" ∈ Ts) (hdg : decode cc pc = .ok (.getfield index, 3))
    (kk : W p l e R s m args below meth c H locs cells slots Q (F0 m (pc + 3) ls (.int 0 :: rest))) : W p l e R s m args below meth c H locs cells slots Q (F0 m pc ls (.ref (stK D i) :: rest)) := by
  obtain ⟨hx, hb, hml, hown, hts, hr, hlocks, hK, hA, hG, hsx⟩ := id cx
  have hs := hsx.2.2.2.2.2.2.2
  exact vk_getf hx hb (hs.1.1 i hi).2.1 w.2.2 hown (hts _ hlink) (fun _ h => h) hdg kk
theorem r_blen (cx : cX p s m args meth c cc own nL ret Ts D cy G A) (w : wd D cy G M A s.heap H locs) {i : Nat} (hi : i < 35) (hdg : decode cc pc = .ok (.arraylength, 1))
    (kk : W p l e R s m args below meth c H locs cells slots Q (F0 m (pc + 1) ls (.int (Int32.ofNat (sN i)) :: rest))) : W p l e R s m args below meth c H locs cells slots Q (F0 m pc ls (.ref (stV D i) :: rest)) := by
  obtain ⟨hx, hb, hml, hown, hts, hr, hlocks, hK, hA, hG, hsx⟩ := id cx
  have hs := hsx.2.2.2.2.2.2.2
  exact va_tlen hx hb (hs.1.1 i hi).2.2.2 w.2.2 rfl hdg kk
theorem r_bald (cx : cX p s m args meth c cc own nL ret Ts D cy G A) (w : wd D cy G M A s.heap H locs) {i : Nat} {j : Int32} (hi : i < 35) (hin : vp_in j (sN i)) (hdg : decode cc pc = .ok (.baload, 1))
    (kk : W p l e R s m args below meth c H locs cells slots Q (F0 m (pc + 1) ls (.int (sB i j.toNatClampNeg) :: rest))) : W p l e R s m args below meth c H locs cells slots Q (F0 m pc ls (.int j :: .ref (stV D i) :: rest)) := by
  obtain ⟨hx, hb, hml, hown, hts, hr, hlocks, hK, hA, hG, hsx⟩ := id cx
  have hs := hsx.2.2.2.2.2.2.2
  exact va_tb hx hb (hs.1.1 i hi).2.2.2 w.2.2 hin rfl hdg kk
theorem r_getC (cx : cX p s m args meth c cc own nL ret Ts D cy G A) (w : wd D cy G M A s.heap H locs) {index : Nat} (hlink : Cond.fieldLink own index "java/lang/String" "COMPACT_STRINGS" "Z" ∈ Ts) (hdg : decode cc pc = .ok (.getstatic index, 3))
    (kk : W p l e R s m args below meth c H locs cells slots Q (F0 m (pc + 3) ls (.int 1 :: rest))) : W p l e R s m args below meth c H locs cells slots Q (F0 m pc ls rest) := by
  obtain ⟨hx, hb, hml, hown, hts, hr, hlocks, hK, hA, hG, hsx⟩ := id cx
  have hs := hsx.2.2.2.2.2.2.2
  exact va_gets hx hb hs.2.2.2.2.2.1 w.2.2 hown (hts _ hlink) (fun _ h => h) hdg kk
theorem r_getW (cx : cX p s m args meth c cc own nL ret Ts D cy G A) (w : wd D cy G M A s.heap H locs) {index : Nat} (hlink : Cond.fieldLink own index "FlagAntsModel" "WORDS" "[Ljava/lang/String;" ∈ Ts) (hdg : decode cc pc = .ok (.getstatic index, 3))
    (kk : W p l e R s m args below meth c H locs cells slots Q (F0 m (pc + 3) ls (.ref (stW D) :: rest))) : W p l e R s m args below meth c H locs cells slots Q (F0 m pc ls rest) := by
  obtain ⟨hx, hb, hml, hown, hts, hr, hlocks, hK, hA, hG, hsx⟩ := id cx
  have hs := hsx.2.2.2.2.2.2.2
  exact va_gets hx hb hs.2.2.2.1 w.2.2 hown (hts _ hlink) (fun _ h => h) hdg kk
theorem r_wlen (cx : cX p s m args meth c cc own nL ret Ts D cy G A) (w : wd D cy G M A s.heap H locs)  (hdg : decode cc pc = .ok (.arraylength, 1))
    (kk : W p l e R s m args below meth c H locs cells slots Q (F0 m (pc + 1) ls (.int (33 : Int32) :: rest))) : W p l e R s m args below meth c H locs cells slots Q (F0 m pc ls (.ref (stW D) :: rest)) := by
  obtain ⟨hx, hb, hml, hown, hts, hr, hlocks, hK, hA, hG, hsx⟩ := id cx
  have hs := hsx.2.2.2.2.2.2.2
  exact va_tlen hx hb hs.2.2.2.2.1 w.2.2 rfl hdg kk
theorem r_wald (cx : cX p s m args meth c cc own nL ret Ts D cy G A) (w : wd D cy G M A s.heap H locs) {j : Int32} (hin : vp_in j 33) (hdg : decode cc pc = .ok (.aaload, 1))
    (kk : W p l e R s m args below meth c H locs cells slots Q (F0 m (pc + 1) ls (.ref (stK D j.toNatClampNeg) :: rest))) : W p l e R s m args below meth c H locs cells slots Q (F0 m pc ls (.int j :: .ref (stW D) :: rest)) := by
  obtain ⟨hx, hb, hml, hown, hts, hr, hlocks, hK, hA, hG, hsx⟩ := id cx
  have hs := hsx.2.2.2.2.2.2.2
  exact vb_tq hx hb hs.2.2.2.2.1 w.2.2 hin rfl hdg kk
theorem r_ldc33 (cx : cX p s m args meth c cc own nL ret Ts D cy G A) (w : wd D cy G M A s.heap H locs) (ho : own = "FlagAntsModel") (hdg : decode cc pc = .ok (.ldc 93, 2))
    (kk : W p l e R s m args below meth c H locs cells slots Q (F0 m (pc + 2) ls (.ref (stK D 33) :: rest))) : W p l e R s m args below meth c H locs cells slots Q (F0 m pc ls rest) := by
  obtain ⟨hx, hb, hml, hown, hts, hr, hlocks, hK, hA, hG, hsx⟩ := id cx
  have hs := hsx.2.2.2.2.2.2.2
  subst ho
  exact va_ldcS hx hb hown hs.2.1 hdg kk
theorem r_ldc34 (cx : cX p s m args meth c cc own nL ret Ts D cy G A) (w : wd D cy G M A s.heap H locs) (ho : own = "FlagAnts$Tokens") (hdg : decode cc pc = .ok (.ldc 32, 2))
    (kk : W p l e R s m args below meth c H locs cells slots Q (F0 m (pc + 2) ls (.ref (stK D 34) :: rest))) : W p l e R s m args below meth c H locs cells slots Q (F0 m pc ls rest) := by
  obtain ⟨hx, hb, hml, hown, hts, hr, hlocks, hK, hA, hG, hsx⟩ := id cx
  have hs := hsx.2.2.2.2.2.2.2
  subst ho
  exact va_ldcS hx hb hown hs.2.2.1 hdg kk
/-- a static that is null or an object, handed on -/
theorem r_getF (cx : cX p s m args meth c cc own nL ret Ts D cy G A) (w : wd D cy G M A s.heap H locs) {index : Nat} (hlink : Cond.fieldLink own index "jdk/internal/util/Preconditions" "SIOOBE_FORMATTER" "Ljava/util/function/BiFunction;" ∈ Ts) (hdg : decode cc pc = .ok (.getstatic index, 3))
    (kk : ∀ o : Option Nat, W p l e R s m args below meth c H locs cells slots Q (F0 m (pc + 3) ls (va_rf o :: rest))) : W p l e R s m args below meth c H locs cells slots Q (F0 m pc ls rest) := by
  obtain ⟨hx, hb, hml, hown, hts, hr, hlocks, hK, hA, hG, hsx⟩ := id cx
  have hs := hsx.2.2.2.2.2.2.2.2.2.2.2.2.2
  rcases hs with hs | ⟨t, hs⟩
  · exact va_gets hx hb hs w.2.2 hown (hts _ hlink) (fun _ h => h) hdg (kk none)
  · exact va_gets hx hb hs w.2.2 hown (hts _ hlink) (fun _ h => h) hdg (kk (some t))
theorem vp_lt {i : Int32} {n : Nat} (h : vp_in i n) : i.toNatClampNeg < n := by
  unfold vp_in at h
  omega
theorem vp_lt35 {i : Int32} (h : vp_in i 33) : i.toNatClampNeg < 35 := Nat.lt_trans (vp_lt h) (by decide)
theorem z_char {v : Int32} (h : (v.toUInt32 % 65536).toInt32 = v) : narrow .char (.int v) = .int v := by
  have h1 := pk_nc v
  rw [h] at h1
  exact h1
theorem z_byte {v : Int32} (h : v.toInt8.toInt32 = v) : narrow .byte (.int v) = .int v := by
  have h1 := pk_nb v
  rw [h] at h1
  exact h1
theorem r_nret {ty : FieldType} (cx : cX p s m args meth c cc own nL (some ty) Ts D cy G A) (w : wd D cy G M A s.heap H locs) {M' : mS} {v r : Int32} (hn : narrow ty (.int v) = .int v) (h : some (M, v) = some (M', r)) (hdg : decode cc pc = .ok (.ireturn, 1)) : W p l e R s m args below meth c H locs cells slots (MQ below (va_Qi (fun (r' : Int32) (_ : Unit) => r' = r) (fun _ t => wOut D cy G M' t) A) args s cells slots A) (F0 m pc ls [.int v]) := by
  cases h
  obtain ⟨hx, hb, hml, hown, hts, hr, hlocks, hK, hA, hG, hsx⟩ := cx
  exact W.zret (ty := ty) hx hb hr hn (fun t ht hW => ⟨⟨v, (), rfl, rfl, by show va_P _ _ _ _; rw [ht]; exact w.1⟩, w.2.2.F ht⟩) w.2.2.2.2 hdg hlocks
variable {y : MethodName} {bytes : ByteArray} {maxL n index : Nat} {yret : Option FieldType} {ws : List Cond} {rm : Room} {As : List Value}
theorem r_callVTi (cx : cX p s m args meth c cc own nL ret Ts D cy G A) (w : wd D cy G M A s.heap H locs) (hcs : cells ≤ R.cells ∧ slots ≤ R.slots) (hls : ls.size = nL) {r : Int32} {i : Nat} (hi : i < 35) (hM : ctI l y ws rm D cy G M (.ref (stK D i) :: As) M1 r) (cw : CallW R s args own "java/lang/String" index y bytes maxL yret ws rm 0 0 n) (hn : As.length = n) (hst : st0 = As.reverse ++ .ref (stK D i) :: rest) (hW : (rest.map fun v => v.category).sum ≤ 8) (hdg : decode cc pc = .ok (.invokevirtual index, 3))
    (kk : ∀ (H1 : Heap) (locs1 : List Loc), wd D cy G M1 A s.heap H1 locs1 → W p l e R s m args below meth c H1 locs1 cells slots Q (F0 m (pc + 3) ls (.int r :: rest))) : W p l e R s m args below meth c H locs cells slots Q (F0 m pc ls st0) := by
  have fr := wd_free cx w
  obtain ⟨hx, hb, hml, hown, hts, hr, hlocks, hK, hA, hG, hsx⟩ := id cx
  refine va_calli (va_runV (As := As) (rest := rest) ⟨hx, hb, hml, hown, hts⟩ (hM H.size) cw ⟨blind _ D cy G M H.size, vk_recv hsx.2.2.2.2.2.2.2.1 hi w.2.2, wd_pre cx w _⟩ rfl hn hls hst (lv_room hW) hdg hcs) w.2.2 (fun q _ h => fr q h) fr (fun r1 u t H1 locs1 ht hvm hq hB hz1 hk1 hS => ?_)
  subst hq
  have hP1 : va_P D vwCl (pl cy G M1) t.heap := hB
  rw [ht] at hP1
  exact kk H1 locs1 ⟨hP1, pl_D w.2.1 (pl_in w.2.1), hS⟩
end StrRows
