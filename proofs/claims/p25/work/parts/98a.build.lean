/-! what is made, one after another, at addresses by number -/
def adw (ad : Nat → Nat) (k q : Nat) : Nat → Nat := fun i => if i = k then q else ad i
/-- G0 stands as it was; at the numbers U new things, N their kinds and lengths, F their fields, V, VJ what they hold -/
def Bu (G0 : gS) (M0 : mS) (G : gS) (M : mS) (ad : Nat → Nat) (U : List Nat) (N F : List (Nat × Nat × Nat)) (V : Nat → Nat → Int32) (VJ : Nat → Nat → Int64) : Prop :=
  (∀ a ∈ gL G0, a ∈ gL G ∧ gK G a = gK G0 a ∧ gN G a = gN G0 a ∧ gP G a = gP G0 a ∧ mI M a = mI M0 a ∧ mJ M a = mJ M0 a) ∧
  (∀ k ∈ U, ad k ∈ gL G ∧ ad k ∉ gL G0) ∧ (∀ k ∈ U, ∀ l ∈ U, ad k = ad l → k = l) ∧
  (∀ t ∈ N, t.1 ∈ U ∧ gK G (ad t.1) = t.2.1 ∧ gN G (ad t.1) = t.2.2) ∧
  (∀ t ∈ F, t.1 ∈ U ∧ t.2.2 ∈ U ∧ gP G (ad t.1) t.2.1 = some (ad t.2.2)) ∧
  ∀ k ∈ U, mI M (ad k) = V k ∧ mJ M (ad k) = VJ k
theorem mI_wZ {M : mS} {q b : Nat} : mI (wZ M q) b = if b = q then (fun _ => 0) else mI M b := rfl
theorem mJ_wZ {M : mS} {q b : Nat} : mJ (wZ M q) b = if b = q then (fun _ => 0) else mJ M b := rfl
section Build
variable {G0 G : gS} {M0 M : mS} {ad : Nat → Nat} {U : List Nat} {N F : List (Nat × Nat × Nat)} {V : Nat → Nat → Int32} {VJ : Nat → Nat → Int64}
theorem Bu_00 {G : gS} {M : mS} {ad : Nat → Nat} {V : Nat → Nat → Int32} {VJ : Nat → Nat → Int64} : Bu G M G M ad [] [] [] V VJ := ⟨fun a ha => ⟨ha, rfl, rfl, rfl, rfl, rfl⟩, fun k hk => absurd hk List.not_mem_nil, fun k hk => absurd hk List.not_mem_nil, fun k hk => absurd hk List.not_mem_nil, fun k hk => absurd hk List.not_mem_nil, fun k hk => absurd hk List.not_mem_nil⟩
theorem Bu_nw (h : Bu G0 M0 G M ad U N F V VJ) {q : Nat} (hq : q ∉ gL G) {k : Nat} (hk : k ∉ U) (hV : V k = fun _ => 0) (hJ : VJ k = fun _ => 0) {ci n : Nat} : Bu G0 M0 (gNw G q ci n) (wZ M q) (adw ad k q) (k :: U) ((k, ci, n) :: N) F V VJ := by
  obtain ⟨h1, h2, h3, h4, h5, h6⟩ := h
  have e1 : adw ad k q k = q := if_pos rfl
  have e2 : ∀ l, l ∈ U → adw ad k q l = ad l := fun l hl => if_neg (show ¬ l = k from fun e => hk (e ▸ hl))
  have e3 : ∀ l, l ∈ U → ad l ≠ q := fun l hl e => hq (e ▸ (h2 l hl).1)
  have q0 : q ∉ gL G0 := fun g => hq (h1 q g).1
  refine ⟨fun a ha => ?_, fun l hl => ?_, fun l hl m hm => ?_, fun t ht => ?_, fun t ht => ?_, fun l hl => ?_⟩
  · obtain ⟨a1, a2, a3, a4, a5, a6⟩ := h1 a ha
    have aq : a ≠ q := fun e => hq (e ▸ a1)
    exact ⟨List.mem_append_left _ a1, (up_ne aq).trans a2, (up_ne aq).trans a3, (up_ne aq).trans a4, by rw [mI_wZ, if_neg aq]; exact a5, by rw [mJ_wZ, if_neg aq]; exact a6⟩
  · rcases List.mem_cons.mp hl with e | e
    · rw [e, e1]
      exact ⟨List.mem_append_right _ List.mem_cons_self, q0⟩
    · rw [e2 l e]
      exact ⟨List.mem_append_left _ (h2 l e).1, (h2 l e).2⟩
  · rcases List.mem_cons.mp hl with e | e
    · rcases List.mem_cons.mp hm with g | g
      · intro _; rw [e, g]
      · rw [e, e1, e2 m g]
        exact fun x => absurd x.symm (e3 m g)
    · rcases List.mem_cons.mp hm with g | g
      · rw [g, e1, e2 l e]
        exact fun x => absurd x (e3 l e)
      · rw [e2 l e, e2 m g]
        exact h3 l e m g
  · rcases List.mem_cons.mp ht with e | e
    · rw [e]
      show k ∈ k :: U ∧ gK (gNw G q ci n) (adw ad k q k) = ci ∧ gN (gNw G q ci n) (adw ad k q k) = n
      rw [e1]
      exact ⟨List.mem_cons_self, up_eq, up_eq⟩
    · obtain ⟨a1, a2, a3⟩ := h4 t e
      rw [e2 _ a1]
      exact ⟨List.mem_cons_of_mem _ a1, (up_ne (e3 _ a1)).trans a2, (up_ne (e3 _ a1)).trans a3⟩
  · obtain ⟨a1, a2, a3⟩ := h5 t ht
    rw [e2 _ a1, e2 _ a2]
    refine ⟨List.mem_cons_of_mem _ a1, List.mem_cons_of_mem _ a2, ?_⟩
    rw [show gP (gNw G q ci n) (ad t.1) = gP G (ad t.1) from up_ne (e3 _ a1)]
    exact a3
  · rcases List.mem_cons.mp hl with e | e
    · rw [e, e1, mI_wZ, if_pos rfl, mJ_wZ, if_pos rfl, hV, hJ]
      exact ⟨rfl, rfl⟩
    · rw [e2 l e, mI_wZ, if_neg (e3 l e), mJ_wZ, if_neg (e3 l e)]
      exact h6 l e
theorem Bu_st (h : Bu G0 M0 G M ad U N F V VJ) {i f j a b : Nat} (hi : i ∈ U) (hj : j ∈ U) (ha : ad i = a) (hb : ad j = b) (hF : ∀ t ∈ F, ¬ (t.1 = i ∧ t.2.1 = f)) : Bu G0 M0 (gSt G a f b) M ad U N ((i, f, j) :: F) V VJ := by
  obtain ⟨h1, h2, h3, h4, h5, h6⟩ := h
  have ha0 : a ∉ gL G0 := ha ▸ (h2 i hi).2
  have e0 : ∀ x, x ≠ a → gP (gSt G a f b) x = gP G x := fun x hx => up_ne hx
  have e1 : gP (gSt G a f b) a = va_up (gP G a) f (some b) := up_eq
  refine ⟨fun x hx => ?_, h2, h3, h4, fun t ht => ?_, h6⟩
  · obtain ⟨a1, a2, a3, a4, a5⟩ := h1 x hx
    exact ⟨a1, a2, a3, (e0 x (fun e => ha0 (e ▸ hx))).trans a4, a5⟩
  · rcases List.mem_cons.mp ht with e | e
    · rw [e]
      refine ⟨hi, hj, ?_⟩
      show gP (gSt G a f b) (ad i) f = some (ad j)
      rw [ha, e1, hb]
      exact up_eq
    · obtain ⟨a1, a2, a3⟩ := h5 t e
      refine ⟨a1, a2, ?_⟩
      by_cases g : ad t.1 = a
      · have gi : t.1 = i := h3 _ a1 _ hi (g.trans ha.symm)
        have gf : t.2.1 ≠ f := fun q => hF t e ⟨gi, q⟩
        rw [g, e1, up_ne gf, ← g]
        exact a3
      · rw [e0 _ g]
        exact a3
theorem Bu_wI (h : Bu G0 M0 G M ad U N F V VJ) {i a x : Nat} {v : Int32} (hi : i ∈ U) (ha : ad i = a) : Bu G0 M0 G (wI M a x v) ad U N F (fun k => if k = i then upd (V i) x v else V k) VJ := by
  obtain ⟨h1, h2, h3, h4, h5, h6⟩ := h
  refine ⟨fun b hb => ?_, h2, h3, h4, h5, fun k hk => ⟨?_, (h6 k hk).2⟩⟩
  · obtain ⟨a1, a2, a3, a4, a5, a6⟩ := h1 b hb
    refine ⟨a1, a2, a3, a4, ?_, a6⟩
    rw [mI_wI, if_neg (fun e => (h2 i hi).2 (by rw [ha, ← e]; exact hb))]
    exact a5
  show mI (wI M a x v) (ad k) = if k = i then upd (V i) x v else V k
  rw [mI_wI]
  by_cases e : k = i
  · rw [if_pos e, if_pos (by rw [e]; exact ha), ← ha, (h6 i hi).1]
  · rw [if_neg e, if_neg (fun g => e (h3 k hk i hi (g.trans ha.symm)))]
    exact (h6 k hk).1
theorem Bu_ad {ad' : Nat → Nat} (h : Bu G0 M0 G M ad U N F V VJ) (he : ∀ k ∈ U, ad' k = ad k) : Bu G0 M0 G M ad' U N F V VJ := by
  obtain ⟨h1, h2, h3, h4, h5, h6⟩ := h
  refine ⟨h1, fun k hk => ?_, fun k hk l hl => ?_, fun t ht => ?_, fun t ht => ?_, fun k hk => ?_⟩
  · rw [he k hk]; exact h2 k hk
  · rw [he k hk, he l hl]; exact h3 k hk l hl
  · obtain ⟨a1, a2⟩ := h4 t ht
    rw [he _ a1]; exact ⟨a1, a2⟩
  · obtain ⟨a1, a2, a3⟩ := h5 t ht
    rw [he _ a1, he _ a2]; exact ⟨a1, a2, a3⟩
  · rw [he k hk]; exact h6 k hk
theorem Bu_P (h : Bu G0 M0 G M ad U N F V VJ) {i f j : Nat} (ht : (i, f, j) ∈ F) : gP G (ad i) f = some (ad j) := (h.2.2.2.2.1 _ ht).2.2
theorem Bu_N (h : Bu G0 M0 G M ad U N F V VJ) {k c n : Nat} (ht : (k, c, n) ∈ N) : gN G (ad k) = n := (h.2.2.2.1 _ ht).2.2
theorem Bu_K (h : Bu G0 M0 G M ad U N F V VJ) {k c n : Nat} (ht : (k, c, n) ∈ N) : gK G (ad k) = c := (h.2.2.2.1 _ ht).2.1
theorem Bu_I (h : Bu G0 M0 G M ad U N F V VJ) {k : Nat} (hk : k ∈ U) : mI M (ad k) = V k := (h.2.2.2.2.2 k hk).1
theorem lt_all : ∀ L : List Nat, ∃ n, ∀ a ∈ L, a < n := by
  intro L
  induction L with
  | nil => exact ⟨0, fun a ha => absurd ha List.not_mem_nil⟩
  | cons b L ih =>
    obtain ⟨n, hn⟩ := ih
    refine ⟨n + b + 1, fun a ha => ?_⟩
    rcases List.mem_cons.mp ha with e | e
    · omega
    · have := hn a e; omega
/-- one map for what stood and what is new -/
theorem Bu_fresh (h : Bu G0 M0 G M ad U N F V VJ) {ad0 : Nat → Nat} {S : Nat → Prop} [DecidablePred S] (hA : ∀ k l, S k → S l → ad0 k = ad0 l → k = l) (hS : ∀ k, S k → ad0 k ∈ gL G0) (hd : ∀ k ∈ U, ¬ S k) : ∃ ad', Inj ad' ∧ (∀ k, S k → ad' k = ad0 k) ∧ (∀ k ∈ U, ad' k = ad k) ∧ Bu G0 M0 G M ad' U N F V VJ := by
  obtain ⟨n, hn⟩ := lt_all (gL G)
  obtain ⟨g, hg⟩ : ∃ g : Nat → Nat, ∀ k, g k = if S k then ad0 k else if k ∈ U then ad k else n + k := ⟨_, fun _ => rfl⟩
  have eS : ∀ k, S k → g k = ad0 k := fun k hk => by rw [hg, if_pos hk]
  have eU : ∀ k ∈ U, g k = ad k := fun k hk => by rw [hg, if_neg (hd k hk), if_pos hk]
  have eO : ∀ k, ¬ S k → k ∉ U → g k = n + k := fun k hk hk2 => by rw [hg, if_neg hk, if_neg hk2]
  have iS : ∀ k, S k → ad0 k < n := fun k hk => hn _ (h.1 _ (hS k hk)).1
  have iU : ∀ k ∈ U, ad k < n := fun k hk => hn _ (h.2.1 k hk).1
  refine ⟨g, fun k l e => ?_, eS, eU, Bu_ad h eU⟩
  by_cases k1 : S k
  · rw [eS k k1] at e
    have := iS k k1
    by_cases l1 : S l
    · rw [eS l l1] at e; exact hA k l k1 l1 e
    by_cases l2 : l ∈ U
    · rw [eU l l2] at e; exact absurd (e ▸ hS k k1) (h.2.1 l l2).2
    · rw [eO l l1 l2] at e; omega
  by_cases k2 : k ∈ U
  · rw [eU k k2] at e
    have := iU k k2
    by_cases l1 : S l
    · rw [eS l l1] at e; exact absurd (e ▸ hS l l1) (h.2.1 k k2).2
    by_cases l2 : l ∈ U
    · rw [eU l l2] at e; exact h.2.2.1 k k2 l l2 e
    · rw [eO l l1 l2] at e; omega
  · rw [eO k k1 k2] at e
    by_cases l1 : S l
    · have := iS l l1
      rw [eS l l1] at e; omega
    by_cases l2 : l ∈ U
    · have := iU l l2
      rw [eU l l2] at e; omega
    · rw [eO l l1 l2] at e; omega
end Build
section BuildE
variable {G0 G G' : gS} {M0 M M' : mS} {ad : Nat → Nat} {U : List Nat} {N F : List (Nat × Nat × Nat)} {V : Nat → Nat → Int32} {VJ : Nat → Nat → Int64}
theorem Bu_nwE (h : Bu G0 M0 G M ad U N F V VJ) {q : Nat} (hq : q ∉ gL G) {ci n : Nat} (eG : G' = gNw G q ci n) (eM : M' = wZ M q) {k : Nat} (hk : k ∉ U) (hV : V k = fun _ => 0) (hJ : VJ k = fun _ => 0) : Bu G0 M0 G' M' (adw ad k q) (k :: U) ((k, ci, n) :: N) F V VJ := by
  rw [eG, eM]
  exact Bu_nw h hq hk hV hJ
theorem Bu_stE (h : Bu G0 M0 G M ad U N F V VJ) {i f j a b : Nat} (eG : G' = gSt G a f b) (hi : i ∈ U) (hj : j ∈ U) (ha : ad i = a) (hb : ad j = b) (hF : ∀ t ∈ F, ¬ (t.1 = i ∧ t.2.1 = f)) : Bu G0 M0 G' M ad U N ((i, f, j) :: F) V VJ := by
  rw [eG]
  exact Bu_st h hi hj ha hb hF
theorem Bu_wIE (h : Bu G0 M0 G M ad U N F V VJ) {i a x : Nat} {v : Int32} (eM : M' = wI M a x v) (hi : i ∈ U) (ha : ad i = a) : Bu G0 M0 G M' ad U N F (fun k => if k = i then upd (V i) x v else V k) VJ := by
  rw [eM]
  exact Bu_wI h hi ha
theorem Bu_Pe (h : Bu G0 M0 G M ad U N F V VJ) {i f j : Nat} (ht : (i, f, j) ∈ F) {a b : Nat} (ha : ad i = a) (hb : ad j = b) : gP G a f = some b := by
  rw [← ha, ← hb]
  exact Bu_P h ht
theorem Bu_in (h : Bu G0 M0 G M ad U N F V VJ) {k c n : Nat} (ht : (k, c, n) ∈ N) {a : Nat} (ha : ad k = a) {i : Int32} (hv : vp_in i n) : vp_in i (gN G a) := by
  rw [← ha, Bu_N h ht]
  exact hv
theorem Bu_words (h : Bu G0 M0 G M ad U N F V VJ) {i : Nat} (hi : i ∈ U) (w2 : mI M' = mI M) {w : Nat} (hw : ad i = w) (w3 : ∀ b, b ≠ w → mJ M' b = mJ M b) : Bu G0 M0 G M' ad U N F V (fun k => if k = i then mJ M' w else VJ k) := by
  obtain ⟨h1, h2, h3, h4, h5, h6⟩ := h
  refine ⟨fun b hb => ?_, h2, h3, h4, h5, fun k hk => ⟨by rw [w2]; exact (h6 k hk).1, ?_⟩⟩
  · obtain ⟨a1, a2, a3, a4, a5, a6⟩ := h1 b hb
    exact ⟨a1, a2, a3, a4, by rw [w2]; exact a5, (w3 b (fun e => (h2 i hi).2 (by rw [hw, ← e]; exact hb))).trans a6⟩
  · show mJ M' (ad k) = if k = i then mJ M' w else VJ k
    by_cases e : k = i
    · rw [if_pos e, e, hw]
    · rw [if_neg e, w3 _ (fun q => e (h3 k hk i hi (q.trans hw.symm)))]
      exact (h6 k hk).2
end BuildE
