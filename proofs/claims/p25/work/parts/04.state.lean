/-! the pool: one shape (addresses, kinds, lengths, references), one memory (ints of objects and arrays, longs of arrays) -/
abbrev gS : Type := List Nat × (Nat → Nat) × (Nat → Nat) × (Nat → Nat → Option Nat)
abbrev mS : Type := (Nat → Nat → Int32) × (Nat → Nat → Int64)
def gL (G : gS) : List Nat := G.1
def gK (G : gS) : Nat → Nat := G.2.1
def gN (G : gS) : Nat → Nat := G.2.2.1
def gP (G : gS) : Nat → Nat → Option Nat := G.2.2.2
def mI (M : mS) : Nat → Nat → Int32 := M.1
def mJ (M : mS) : Nat → Nat → Int64 := M.2
def wI (M : mS) (a j : Nat) (v : Int32) : mS := (fun b => if b = a then upd (mI M a) j v else mI M b, M.2)
def wJ (M : mS) (a j : Nat) (v : Int64) : mS := (M.1, fun b => if b = a then vp_updL (mJ M a) j v else mJ M b)
/-- a row of ints is written from another one -/
def wC (M : mS) (a : Nat) (f : Nat → Int32) : mS := (fun b => if b = a then f else mI M b, M.2)
/-- the words of nest mates' private members -/
def nestF : List (String × Nat × String × String × String × String) := []
def nestM : List (String × Nat × MethodName × String) := [("FlagAnts", 11, ⟨"FlagAnts$Tape", "<init>", "()V"⟩, "FlagAnts"), ("FlagAnts", 18, ⟨"FlagAnts$Program", "<init>", "()V"⟩, "FlagAnts"), ("FlagAnts$Parser", 31, ⟨"FlagAnts$Program", "<init>", "()V"⟩, "FlagAnts"), ("FlagAnts$Stepper", 9, ⟨"FlagAnts$Reckoner", "<init>", "()V"⟩, "FlagAnts"), ("FlagAnts$Yard", 27, ⟨"FlagAnts$Ant", "<init>", "()V"⟩, "FlagAnts"), ("FlagAnts$Yard", 61, ⟨"FlagAnts", "isColour", "(I)Z"⟩, "FlagAnts"), ("FlagAntsLaw", 72, ⟨"FlagAntsLaw$Sim", "<init>", "()V"⟩, "FlagAntsLaw")]
def nw (U : State) : Prop := (∀ q ∈ nestF, va_Nw (.fieldLinkNest q.1 q.2.1 q.2.2.1 q.2.2.2.1 q.2.2.2.2.1 q.2.2.2.2.2) U) ∧ (∀ q ∈ nestM, va_Nw (.methodLinkNest q.1 q.2.1 q.2.2.1 q.2.2.2) U) ∧ va_Nw (.castable "[B" "java/lang/Cloneable") U
theorem nw_same {u U : State} (h : u.vm = U.vm) (H : nw u) : nw U := ⟨fun q hq => va_Nw.same rfl h (H.1 q hq), fun q hq => va_Nw.same rfl h (H.2.1 q hq), va_Nw.same rfl h H.2.2⟩
theorem nw_warm {s U : State} (hW : s.WarmedH U.vm) (H : nw s) : nw U := ⟨fun q hq => va_Nw.warmF hW (H.1 q hq), fun q hq => va_Nw.warmM hW (H.2.1 q hq), va_Nw.warmC hW H.2.2⟩
def pfs : Nat → (Nat → Option Nat) → (Nat → Int32) → List Value
  | 0, P, I => [.int (I 0), .int (I 1), .int (I 2), .int (I 3), .int (I 4), .int (I 5), .int (I 6), .int (I 7), va_rf (P 8)]
  | 1, P, I => [va_rf (P 0), va_rf (P 1), va_rf (P 2), va_rf (P 3), va_rf (P 4), .int (I 5), .int (I 6), .int (I 7)]
  | 2, P, I => [.int (I 0), va_rf (P 1), va_rf (P 2), .int (I 3), va_rf (P 4), va_rf (P 5), va_rf (P 6), va_rf (P 7), .int (I 8), va_rf (P 9), va_rf (P 10)]
  | 3, P, I => [va_rf (P 0), .int (I 1)]
  | 4, P, I => [va_rf (P 0), va_rf (P 1)]
  | 5, P, I => [va_rf (P 0), .int (I 1)]
  | 6, P, I => [va_rf (P 0), va_rf (P 1), va_rf (P 2), va_rf (P 3), va_rf (P 4), .int (I 5)]
  | 7, P, I => [va_rf (P 0), va_rf (P 1), va_rf (P 2), va_rf (P 3), .int (I 4), .int (I 5), .int (I 6), .int (I 7), .int (I 8)]
  | 8, P, I => [va_rf (P 0), va_rf (P 1), va_rf (P 2), va_rf (P 3), va_rf (P 4), va_rf (P 5), .int (I 6)]
  | 9, P, I => [.int (I 0), .int (I 1), .int (I 2), .int (I 3), va_rf (P 4), va_rf (P 5), va_rf (P 6), va_rf (P 7), va_rf (P 8)]
  | 10, P, I => [va_rf (P 0), .int (I 1), .int (I 2), .int (I 3)]
  | 11, P, I => [va_rf (P 0), .int (I 1), .int (I 2), .int (I 3)]
  | _, _, _ => []
abbrev cyS : Type := ClassId × ClassId × ClassId × ClassId × ClassId
def pf (cy : cyS) (G : gS) (M : mS) (a : Nat) : va_E :=
  if gK G a = 12 then .inl (cy.1, gN G a, .inl (mI M a))
  else if gK G a = 13 then .inl (cy.2.1, gN G a, .inr (.inl (mJ M a)))
  else if gK G a = 14 then .inl (cy.2.2.1, gN G a, .inr (.inr (.inr (.inr (gP G a)))))
  else if gK G a = 15 then .inl (cy.2.2.2.1, gN G a, .inr (.inr (.inr (.inr (gP G a)))))
  else if gK G a = 16 then .inl (cy.2.2.2.2, gN G a, .inl (mI M a))
  else .inr (gK G a, pfs (gK G a) (gP G a) (mI M a))
def pl (cy : cyS) (G : gS) (M : mS) : va_W := va_pl (gL G) (pf cy G M)
/-- which kind a reference leads to, by kind and place -/
def tk : Nat → Nat → Nat
  | 0, 8 => 12
  | 1, 0 => 6
  | 1, 1 => 2
  | 1, 2 => 7
  | 1, 3 => 13
  | 1, 4 => 13
  | 2, 1 => 12
  | 2, 2 => 12
  | 2, 4 => 12
  | 2, 5 => 12
  | 2, 6 => 12
  | 2, 7 => 12
  | 2, 9 => 12
  | 2, 10 => 12
  | 3, 0 => 12
  | 4, 0 => 2
  | 4, 1 => 3
  | 5, 0 => 12
  | 6, 0 => 5
  | 6, 1 => 13
  | 6, 2 => 12
  | 6, 3 => 12
  | 6, 4 => 13
  | 7, 0 => 12
  | 7, 1 => 12
  | 7, 2 => 12
  | 7, 3 => 14
  | 8, 0 => 5
  | 8, 1 => 2
  | 8, 2 => 7
  | 8, 3 => 7
  | 8, 4 => 1
  | 8, 5 => 4
  | 9, 4 => 15
  | 9, 5 => 15
  | 9, 6 => 15
  | 9, 7 => 15
  | 9, 8 => 15
  | 10, 0 => 16
  | 11, 0 => 16
  | 14, _ => 0
  | 15, _ => 12
  | _, _ => 99
def wt (G : gS) : Prop := ∀ a ∈ gL G, ∀ (j q : Nat), gP G a j = some q → q ∈ gL G ∧ gK G q = tk (gK G a) j
def tY (cy : cyS) : List (ClassId × FieldType) := [(cy.1, .int), (cy.2.1, .long), (cy.2.2.1, .object "FlagAnts$Ant"), (cy.2.2.2.1, .array .int), (cy.2.2.2.2, .byte)]
/-- a static row of four ints that is never changed -/
def sx1 (nm : String) (f : Nat → Int32) (A : Nat → Prop) (U : State) (H : Heap) : Prop := ∃ b : Nat, va_Z "FlagAnts$Ant" nm "[I" (.ref b) A U H ∧ va_T .int b 4 (fun j => .int (f j)) A U H
def f_E : Nat → Int32 := fun j => if j = 1 then 1 else if j = 3 then -1 else 0
def f_S : Nat → Int32 := fun j => if j = 0 then -1 else if j = 2 then 1 else 0
def f_T : Nat → Int32 := fun j => if j = 0 then 3 else if j = 1 then 1 else if j = 2 then 0 else 2
/-- the texts of the law and of the class -/
def sLen : List Nat := [4, 5, 8, 4, 5, 4, 5, 4, 5, 10, 1, 1, 8, 1, 11, 8, 19, 4, 8, 5, 6, 1, 1, 5, 5, 4, 7, 2, 6, 5, 4, 6, 6, 6, 167, 6]
def sByt : List (List Int32) := [[108, 101, 102, 116], [114, 105, 103, 104, 116], [115, 116, 114, 97, 105, 103, 104, 116], [98, 97, 99, 107], [110, 111, 114, 116, 104], [101, 97, 115, 116], [115, 111, 117, 116, 104], [119, 101, 115, 116], [100, 97, 114, 107, 62], [115, 116, 101, 112, 45, 115, 116, 101, 112, 47], [42], [61], [97, 99, 114, 111, 115, 115, 32, 97], [60], [32, 111, 114, 32, 109, 101, 101, 116, 115, 32, 97], [112, 101, 114, 105, 111, 100, 32, 97], [62, 48, 32, 97, 110, 100, 32, 110, 111, 116, 32, 104, 97, 108, 116, 101, 100, 32, 97], [114, 111, 119, 40], [41, 43, 100, 111, 119, 110, 32, 97], [47, 56, 62, 61, 53], [114, 117, 108, 101, 32, 114], [32], [59], [97, 110, 116, 32, 97], [32, 111, 102, 32, 114], [32, 97, 116, 32], [32, 102, 97, 99, 101, 115, 32], [59, 10], [112, 97, 105, 110, 116, 32], [119, 97, 115, 104, 32], [32, 116, 111, 32], [102, 97, 99, 101, 32, 97], [104, 97, 108, 116, 32, 97], [119, 97, 108, 107, 32, 97], [114, 117, 108, 101, 32, 108, 101, 102, 116, 32, 114, 105, 103, 104, 116, 32, 115, 116, 114, 97, 105, 103, 104, 116, 32, 98, 97, 99, 107, 32, 97, 110, 116, 32, 111, 102, 32, 97, 116, 32, 102, 97, 99, 101, 115, 32, 110, 111, 114, 116, 104, 32, 101, 97, 115, 116, 32, 115, 111, 117, 116, 104, 32, 119, 101, 115, 116, 32, 112, 97, 105, 110, 116, 32, 119, 97, 115, 104, 32, 116, 111, 32, 102, 97, 99, 101, 32, 104, 97, 108, 116, 32, 119, 97, 108, 107, 32, 119, 104, 101, 110, 32, 115, 116, 101, 112, 32, 100, 97, 114, 107, 32, 97, 99, 114, 111, 115, 115, 32, 100, 111, 119, 110, 32, 112, 101, 114, 105, 111, 100, 32, 114, 111, 119, 32, 109, 101, 101, 116, 115, 32, 104, 97, 108, 116, 101, 100, 32, 110, 111, 116, 32, 97, 110, 100, 32, 111, 114, 32, 109, 105, 110, 32, 109, 97, 120, 32], [32, 119, 104, 101, 110, 32]]
def sRef : List (String × Nat × String) := [("FlagAntsLaw", 228, "left"), ("FlagAntsLaw", 230, "right"), ("FlagAntsLaw", 232, "straight"), ("FlagAntsLaw", 234, "back"), ("FlagAntsLaw", 236, "north"), ("FlagAntsLaw", 238, "east"), ("FlagAntsLaw", 240, "south"), ("FlagAntsLaw", 242, "west"), ("FlagAntsLaw", 35, "dark>"), ("FlagAntsLaw", 48, "step-step/"), ("FlagAntsLaw", 50, "*"), ("FlagAntsLaw", 52, "="), ("FlagAntsLaw", 54, "across a"), ("FlagAntsLaw", 56, "<"), ("FlagAntsLaw", 58, " or meets a"), ("FlagAntsLaw", 60, "period a"), ("FlagAntsLaw", 62, ">0 and not halted a"), ("FlagAntsLaw", 64, "row("), ("FlagAntsLaw", 66, ")+down a"), ("FlagAntsLaw", 68, "/8>=5"), ("FlagAntsLaw", 83, "rule r"), ("FlagAntsLaw", 85, " "), ("FlagAntsLaw", 91, ";"), ("FlagAntsLaw", 101, "ant a"), ("FlagAntsLaw", 103, " of r"), ("FlagAntsLaw", 105, " at "), ("FlagAntsLaw", 107, " faces "), ("FlagAntsLaw", 112, ";\n"), ("FlagAntsLaw", 123, "paint "), ("FlagAntsLaw", 130, "wash "), ("FlagAntsLaw", 132, " to "), ("FlagAntsLaw", 134, "face a"), ("FlagAntsLaw", 136, "halt a"), ("FlagAntsLaw", 138, "walk a"), ("FlagAnts$Tokens", 32, "rule left right straight back ant of at faces north east south west paint wash to face halt walk when step dark across down period row meets halted not and or min max "), ("FlagAntsLaw", 140, " when ")]
def sB (i j : Nat) : Int32 := (sByt.getD i []).getD j 0
def sN (i : Nat) : Nat := sLen.getD i 0
def stK (D : va_G) (i : Nat) : Nat := D.2 100 i
def stV (D : va_G) (i : Nat) : Nat := D.2 101 i
/-- the two rows of texts (0: turns, 1: sides), the two rows of digits, the script -/
def stW (D : va_G) (i : Nat) : Nat := D.2 102 i
def stD (D : va_G) (i : Nat) : Nat := D.2 103 i
def stX (D : va_G) : Nat := D.2 104 0
def xL (D : va_G) : Nat := D.2 104 1
def xS (D : va_G) (j : Nat) : Int32 := Int32.ofNat (D.2 105 j)
def f_D (i : Nat) (j : Nat) : Int32 := if i = 0 then Int32.ofNat (48 + j % 10) else Int32.ofNat (48 + j / 10)
def sxX (D : va_G) (A : Nat → Prop) (U : State) (H : Heap) : Prop := va_X (stX D) (xL D) (xS D) U H ∧ ¬ A (stX D)
def sxS (D : va_G) (A : Nat → Prop) (U : State) (H : Heap) : Prop := vk_S 36 sLen sByt (stK D) (stV D) A U H ∧ (∀ i, i < 36 → vk_R (sRef.getD i ("", 0, "")).1 (sRef.getD i ("", 0, "")).2.1 (sRef.getD i ("", 0, "")).2.2 (stK D i) U) ∧ va_Z "FlagAntsLaw" "TURNS" "[Ljava/lang/String;" (.ref (stW D 0)) A U H ∧ va_T (.object "java/lang/String") (stW D 0) 4 (fun j => .ref (stK D j)) A U H ∧ va_Z "FlagAntsLaw" "SIDES" "[Ljava/lang/String;" (.ref (stW D 1)) A U H ∧ va_T (.object "java/lang/String") (stW D 1) 4 (fun j => .ref (stK D (4 + j))) A U H ∧ va_Z "java/lang/Integer" "DigitOnes" "[B" (.ref (stD D 0)) A U H ∧ va_T .byte (stD D 0) 100 (fun j => .int (f_D 0 j)) A U H ∧ va_Z "java/lang/Integer" "DigitTens" "[B" (.ref (stD D 1)) A U H ∧ va_T .byte (stD D 1) 100 (fun j => .int (f_D 1 j)) A U H ∧ va_Z "java/lang/String" "COMPACT_STRINGS" "Z" (.int 1) A U H ∧ va_Zq "jdk/internal/util/Preconditions" "SIOOBE_FORMATTER" "Ljava/util/function/BiFunction;" A U H ∧ sxX D A U H
theorem sxX_moved {D : va_G} {A : Nat → Prop} {u U : State} {H : Heap} (hvm : u.vm.Alike U.vm) (h : sxX D A u H) : sxX D A U H := ⟨va_X.moved hvm h.1, h.2⟩
theorem sxX_kept {D : va_G} {A B : Nat → Prop} {U : State} {H H1 : Heap} (h : sxX D A U H) (hq : ∀ a : Nat, a < H.size → ¬ A a → H1[a]? = H[a]?) (hAB : ∀ q, B q → A q) : sxX D B U H1 := by
  obtain ⟨⟨scr, h1, h2⟩, h3⟩ := h
  exact ⟨⟨scr, (hq _ (Array.getElem?_eq_some_iff.mp h1).1 h3).trans h1, h2⟩, fun q => h3 (hAB _ q)⟩
theorem sxS_moved {D : va_G} {A : Nat → Prop} {u U : State} {H : Heap} (hvm : u.vm.Alike U.vm) (hR : ∀ {own tx : String} {k a : Nat}, vk_R own k tx a u → vk_R own k tx a U) (h : sxS D A u H) : sxS D A U H := by
  obtain ⟨h1, h2, h3, h4, h5, h6, h7, h8, h9, h10, h11, h12, h13⟩ := h
  exact ⟨vk_S.moved hvm h1, fun i hi => hR (h2 i hi), va_Z.moved hvm h3, va_T.moved hvm h4, va_Z.moved hvm h5, va_T.moved hvm h6, va_Z.moved hvm h7, va_T.moved hvm h8, va_Z.moved hvm h9, va_T.moved hvm h10, va_Z.moved hvm h11, va_Zq.moved hvm h12, sxX_moved hvm h13⟩
theorem sxS_kept {D : va_G} {A B : Nat → Prop} {U : State} {H H1 : Heap} (h : sxS D A U H) (hq : ∀ a : Nat, a < H.size → ¬ A a → H1[a]? = H[a]?) (hAB : ∀ q, B q → A q) : sxS D B U H1 := by
  obtain ⟨h1, h2, h3, h4, h5, h6, h7, h8, h9, h10, h11, h12, h13⟩ := h
  exact ⟨(h1.kept hq).narrow hAB, h2, (h3.kept hq).narrow hAB, (h4.kept hq).narrow hAB, (h5.kept hq).narrow hAB, (h6.kept hq).narrow hAB, (h7.kept hq).narrow hAB, (h8.kept hq).narrow hAB, (h9.kept hq).narrow hAB, (h10.kept hq).narrow hAB, (h11.kept hq).narrow hAB, (h12.kept hq).narrow hAB, sxX_kept h13 hq hAB⟩
def sx (D : va_G) (A : Nat → Prop) (U : State) (H : Heap) : Prop := sx1 "EAST" f_E A U H ∧ sx1 "SOUTH" f_S A U H ∧ sx1 "TURN_BY" f_T A U H ∧ nw U ∧ va_AO "FlagAnts$Ant" U ∧ va_AOA .int U ∧ sxS D A U H
theorem sx1_moved {nm : String} {f : Nat → Int32} {A : Nat → Prop} {u U : State} {H : Heap} (hvm : u.vm.Alike U.vm) (h : sx1 nm f A u H) : sx1 nm f A U H := by
  obtain ⟨b, h1, h2⟩ := h
  exact ⟨b, va_Z.moved hvm h1, va_T.moved hvm h2⟩
theorem sx_same {D : va_G} {A : Nat → Prop} {u U : State} {H : Heap} (hvm : u.vm = U.vm) (h : sx D A u H) : sx D A U H := ⟨sx1_moved (hvm ▸ Vm.Alike.refl u.vm) h.1, sx1_moved (hvm ▸ Vm.Alike.refl u.vm) h.2.1, sx1_moved (hvm ▸ Vm.Alike.refl u.vm) h.2.2.1, nw_same hvm h.2.2.2.1, va_AO.moved (hvm ▸ Vm.Alike.refl u.vm) h.2.2.2.2.1, ar_moved (hvm ▸ Vm.Alike.refl u.vm) h.2.2.2.2.2.1, sxS_moved (hvm ▸ Vm.Alike.refl u.vm) (fun h => vk_R.same hvm.symm h) h.2.2.2.2.2.2⟩
theorem sx_warm {D : va_G} {A : Nat → Prop} {s U : State} {H : Heap} (hW : s.WarmedH U.vm) (h : sx D A s H) : sx D A U H := ⟨sx1_moved hW.alike h.1, sx1_moved hW.alike h.2.1, sx1_moved hW.alike h.2.2.1, nw_warm hW h.2.2.2.1, va_AO.moved hW.alike h.2.2.2.2.1, ar_moved hW.alike h.2.2.2.2.2.1, sxS_moved hW.alike (fun h => vk_R.warm hW h) h.2.2.2.2.2.2⟩
theorem sx1_kept {nm : String} {f : Nat → Int32} {A B : Nat → Prop} {U : State} {H H1 : Heap} (h : sx1 nm f A U H) (hz : H.size ≤ H1.size) (hq : ∀ a : Nat, a < H.size → ¬ A a → H1[a]? = H[a]?) (hAB : ∀ q, B q → A q) : sx1 nm f B U H1 := by
  obtain ⟨b, h1, h2⟩ := h
  exact ⟨b, va_Z.narrow (va_Z.kept h1 hq) hAB, va_T.narrow (va_T.kept h2 hq) hAB⟩
theorem sx_kept {D : va_G} {A B : Nat → Prop} {U : State} {H H1 : Heap} (h : sx D A U H) (hz : H.size ≤ H1.size) (hq : ∀ a : Nat, a < H.size → ¬ A a → H1[a]? = H[a]?) (hAB : ∀ q, B q → A q) : sx D B U H1 := ⟨sx1_kept h.1 hz hq hAB, sx1_kept h.2.1 hz hq hAB, sx1_kept h.2.2.1 hz hq hAB, h.2.2.2.1, h.2.2.2.2.1, h.2.2.2.2.2.1, sxS_kept h.2.2.2.2.2.2 hq hAB⟩
/-- which cells a method may change -/
def pA (G : gS) (sz : Nat) : Nat → Prop := fun q => q ∈ gL G ∨ sz ≤ q
/-- what a method's caller has made sure of -/
def wIn (D : va_G) (cy : cyS) (G : gS) (M : mS) (sz : Nat) (U : State) : Prop := U.heap.size = sz ∧ va_P D vwCl (pl cy G M) U.heap ∧ va_K D vwCl (tY cy) U ∧ va_D (fun _ => True) (pl cy G M) ∧ sx D (pA G sz) U U.heap
def wOut (D : va_G) (cy : cyS) (G : gS) (M : mS) (t : State) : Prop := va_P D vwCl (pl cy G M) t.heap
theorem blind (av : List Value) (D : va_G) (cy : cyS) (G : gS) (M : mS) (sz : Nat) : FrameBlind (va_Pc av (wIn D cy G M sz)) := by
  intro a U g mk q
  obtain ⟨h0, h1, h2, h3, h4, h5⟩ := q
  exact ⟨h0, h1, h2, va_K.moved (u := U) (U := U.calling g mk a) (Vm.Alike.refl U.vm) h3, h4, sx_same (u := U) (U := U.calling g mk a) rfl h5⟩
/-- the contracts: from memory M to memory M' with the answer r -/
def ctI (l : Launch) (y : MethodName) (ws : List Cond) (rm : Room) (D : va_G) (cy : cyS) (G : gS) (M : mS) (av : List Value) (M' : mS) (r : Int32) : Prop := ∀ sz : Nat, Met l y ws rm (va_Pc av (wIn D cy G M sz)) (va_Qi (fun (r' : Int32) (_ : Unit) => r' = r) (fun _ t => wOut D cy G M' t) (pA G sz)) 0 0 (pA G sz)
def ctL (l : Launch) (y : MethodName) (ws : List Cond) (rm : Room) (D : va_G) (cy : cyS) (G : gS) (M : mS) (av : List Value) (M' : mS) (r : Int64) : Prop := ∀ sz : Nat, Met l y ws rm (va_Pc av (wIn D cy G M sz)) (va_Ql (fun (r' : Int64) (_ : Unit) => r' = r) (fun _ t => wOut D cy G M' t) (pA G sz)) 0 0 (pA G sz)
def ctD (l : Launch) (y : MethodName) (ws : List Cond) (rm : Room) (D : va_G) (cy : cyS) (G : gS) (M : mS) (av : List Value) (M' : mS) (r : UInt64) : Prop := ∀ sz : Nat, Met l y ws rm (va_Pc av (wIn D cy G M sz)) (va_Qd (fun (r' : UInt64) (_ : Unit) => r' = r) (fun _ t => wOut D cy G M' t) (pA G sz)) 0 0 (pA G sz)
def ctV (l : Launch) (y : MethodName) (ws : List Cond) (rm : Room) (D : va_G) (cy : cyS) (G : gS) (M : mS) (av : List Value) (M' : mS) : Prop := ∀ sz : Nat, Met l y ws rm (va_Pc av (wIn D cy G M sz)) (va_Qv (fun (_ : Unit) => True) (fun _ t => wOut D cy G M' t) (pA G sz)) 0 0 (pA G sz)
def ctR (l : Launch) (y : MethodName) (ws : List Cond) (rm : Room) (D : va_G) (cy : cyS) (G : gS) (M : mS) (av : List Value) (M' : mS) (r : Nat) : Prop := ∀ sz : Nat, Met l y ws rm (va_Pc av (wIn D cy G M sz)) (va_Qr (fun (_ : Unit) => True) (fun _ a t => a = r ∧ wOut D cy G M' t) (pA G sz)) 0 0 (pA G sz)
/-- the mirror's words -/
def o_ix {α : Type} (i : Int32) (n : Nat) (k : Option α) : Option α := if i < 0 ∨ n ≤ i.toNatClampNeg then none else k
def o_ck {α : Type} (c : Prop) [Decidable c] (k : Option α) : Option α := if c then k else none
def o_rf {α : Type} (r : Option Nat) (k : Nat → Option α) : Option α := match r with
  | none => none
  | some a => k a
def o_wI {α : Type} (M : mS) (a j : Nat) (v : Int32) (k : mS → Option α) : Option α := k (wI M a j v)
def o_wJ {α : Type} (M : mS) (a j : Nat) (v : Int64) (k : mS → Option α) : Option α := k (wJ M a j v)
def o_bd {α β : Type} (e : β) (k : β → Option α) : Option α := k e
def o_cl {α β : Type} (x : Option (mS × β)) (k : mS → β → Option α) : Option α := match x with
  | none => none
  | some q => k q.1 q.2
theorem x_ix {α : Type} {i : Int32} {n : Nat} {k : Option α} {z : α} (h : o_ix i n k = some z) : vp_in i n ∧ k = some z := by
  unfold o_ix at h
  split at h
  · cases h
  · exact ⟨by assumption, h⟩
theorem x_ck {α : Type} {c : Prop} {dc : Decidable c} {k : Option α} {z : α} (h : @o_ck α c dc k = some z) : c ∧ k = some z := by
  unfold o_ck at h
  split at h
  · exact ⟨by assumption, h⟩
  · cases h
theorem x_rf {α : Type} {r : Option Nat} {k : Nat → Option α} {z : α} (h : o_rf r k = some z) : ∃ a, r = some a ∧ k a = some z := by
  cases r with
  | none => cases h
  | some a => exact ⟨a, rfl, h⟩
theorem x_wI {α : Type} {M : mS} {a j : Nat} {v : Int32} {k : mS → Option α} {z : α} (h : o_wI M a j v k = some z) : ∃ M1, M1 = wI M a j v ∧ k M1 = some z := ⟨_, rfl, h⟩
theorem x_wJ {α : Type} {M : mS} {a j : Nat} {v : Int64} {k : mS → Option α} {z : α} (h : o_wJ M a j v k = some z) : ∃ M1, M1 = wJ M a j v ∧ k M1 = some z := ⟨_, rfl, h⟩
theorem x_bd {α β : Type} {e : β} {k : β → Option α} {z : α} (h : o_bd e k = some z) : ∃ x, x = e ∧ k x = some z := ⟨_, rfl, h⟩
theorem x_cl {α β : Type} {x : Option (mS × β)} {k : mS → β → Option α} {z : α} (h : o_cl x k = some z) : ∃ M1 r, x = some (M1, r) ∧ k M1 r = some z := by
  cases x with
  | none => cases h
  | some q => exact ⟨q.1, q.2, rfl, h⟩
theorem x_t {α : Type} {c : Prop} {dc : Decidable c} {a b : Option α} {z : α} (h : @ite _ c dc a b = some z) (hc : c) : a = some z := by rw [if_pos hc] at h; exact h
theorem x_f {α : Type} {c : Prop} {dc : Decidable c} {a b : Option α} {z : α} (h : @ite _ c dc a b = some z) (hc : ¬ c) : b = some z := by rw [if_neg hc] at h; exact h
/-! the pool's rows -/
theorem pf_obj {cy : cyS} {G : gS} {M : mS} {a ci : Nat} (hk : gK G a = ci) (hci : ci < 12) : pf cy G M a = .inr (ci, pfs ci (gP G a) (mI M a)) := by
  subst hk
  unfold pf
  rw [if_neg (by omega), if_neg (by omega), if_neg (by omega), if_neg (by omega), if_neg (by omega)]
theorem pf_I {cy : cyS} {G : gS} {M : mS} {a : Nat} (hk : gK G a = 12) : pf cy G M a = .inl (cy.1, gN G a, .inl (mI M a)) := by
  unfold pf
  rw [if_pos hk]
theorem pf_J {cy : cyS} {G : gS} {M : mS} {a : Nat} (hk : gK G a = 13) : pf cy G M a = .inl (cy.2.1, gN G a, .inr (.inl (mJ M a))) := by
  unfold pf
  rw [if_neg (by omega), if_pos hk]
theorem pf_R {cy : cyS} {G : gS} {M : mS} {a : Nat} (hk : gK G a = 14) : pf cy G M a = .inl (cy.2.2.1, gN G a, .inr (.inr (.inr (.inr (gP G a))))) := by
  unfold pf
  rw [if_neg (by omega), if_neg (by omega), if_pos hk]
theorem pf_A {cy : cyS} {G : gS} {M : mS} {a : Nat} (hk : gK G a = 15) : pf cy G M a = .inl (cy.2.2.2.1, gN G a, .inr (.inr (.inr (.inr (gP G a))))) := by
  unfold pf
  rw [if_neg (by omega), if_neg (by omega), if_neg (by omega), if_pos hk]
theorem pf_B {cy : cyS} {G : gS} {M : mS} {a : Nat} (hk : gK G a = 16) : pf cy G M a = .inl (cy.2.2.2.2, gN G a, .inl (mI M a)) := by
  unfold pf
  rw [if_neg (by omega), if_neg (by omega), if_neg (by omega), if_neg (by omega), if_pos hk]
theorem pl_at {cy : cyS} {G : gS} {M : mS} {a : Nat} (h : a ∈ gL G) : ∃ k : Nat, (pl cy G M)[k]? = some (a, pf cy G M a) := va_pl_get (X := []) h
theorem pl_get {cy : cyS} {G : gS} {M : mS} {k : Nat} {q : Nat × va_E} (h : (pl cy G M)[k]? = some q) : q.1 ∈ gL G ∧ q.2 = pf cy G M q.1 := by
  have h1 := List.mem_of_getElem? h
  obtain ⟨a, h2, h3⟩ := List.mem_map.mp h1
  subst h3
  exact ⟨h2, rfl⟩
theorem pl_set {cy : cyS} {G : gS} {M M1 : mS} {A : Nat → Prop} {a k : Nat} {e : va_E} (hD : va_D A (pl cy G M)) (h : a ∈ gL G) (hk : (pl cy G M)[k]? = some (a, pf cy G M a)) (he : e = pf cy G M1 a) (ho : ∀ b, b ≠ a → pf cy G M1 b = pf cy G M b) : (pl cy G M).set k (a, e) = pl cy G M1 := by
  have h1 := va_pl_set (X := []) (e := e) hD h hk
  refine Eq.trans h1 ?_
  show va_pl (gL G) _ = va_pl (gL G) _
  unfold va_pl
  refine List.map_congr_left (fun b _ => ?_)
  by_cases hb : b = a
  · subst hb
    rw [show va_up (pf cy G M) b e b = e from if_pos rfl, he]
  · rw [show va_up (pf cy G M) a e b = pf cy G M b from if_neg hb, ho b hb]
theorem pf_other {cy : cyS} {G : gS} {M M1 : mS} {b : Nat} (h1 : mI M1 b = mI M b) (h2 : mJ M1 b = mJ M b) : pf cy G M1 b = pf cy G M b := by
  unfold pf
  rw [h1, h2]
theorem mI_wI_ne {M : mS} {a j b : Nat} {v : Int32} (h : b ≠ a) : mI (wI M a j v) b = mI M b := if_neg h
theorem mI_wI_eq {M : mS} {a j : Nat} {v : Int32} : mI (wI M a j v) a = upd (mI M a) j v := if_pos rfl
theorem mJ_wI {M : mS} {a j b : Nat} {v : Int32} : mJ (wI M a j v) b = mJ M b := rfl
theorem mJ_wJ_ne {M : mS} {a j b : Nat} {v : Int64} (h : b ≠ a) : mJ (wJ M a j v) b = mJ M b := if_neg h
theorem mJ_wJ_eq {M : mS} {a j : Nat} {v : Int64} : mJ (wJ M a j v) a = vp_updL (mJ M a) j v := if_pos rfl
theorem mI_wJ {M : mS} {a j b : Nat} {v : Int64} : mI (wJ M a j v) b = mI M b := rfl
theorem pl_D {cy : cyS} {G : gS} {M M1 : mS} {A B : Nat → Prop} (h : va_D A (pl cy G M)) (hB : ∀ q ∈ gL G, B q) : va_D B (pl cy G M1) := by
  have at' : ∀ (k : Nat) (q : Nat × va_E), (pl cy G M1)[k]? = some q → ∃ q', (pl cy G M)[k]? = some q' ∧ q'.1 = q.1 := by
    intro k q hq
    unfold pl va_pl at hq ⊢
    rw [List.getElem?_map] at hq ⊢
    cases hk : (gL G)[k]? with
    | none => rw [hk] at hq; cases hq
    | some a => rw [hk] at hq; cases hq; exact ⟨_, rfl, rfl⟩
  refine ⟨fun i j p q hi hj e => ?_, fun k q hq => hB _ (pl_get hq).1⟩
  obtain ⟨p', h1, h2⟩ := at' i p hi
  obtain ⟨q', h3, h4⟩ := at' j q hj
  exact h.1 i j p' q' h1 h3 (by rw [h2, h4, e])
theorem pl_in {cy : cyS} {G : gS} {M : mS} {A : Nat → Prop} (h : va_D A (pl cy G M)) : ∀ q ∈ gL G, A q := fun q hq => by
  obtain ⟨k, hk⟩ := pl_at (cy := cy) (M := M) hq
  exact h.2 k _ hk
/-- the world of a walk -/
def wd (D : va_G) (cy : cyS) (G : gS) (M : mS) (A : Nat → Prop) (H0 H : Heap) (locs : List Loc) : Prop := va_P D vwCl (pl cy G M) H ∧ va_D A (pl cy G M) ∧ va_S A H0 H locs
/-- what stays the same in a walk of a method -/
def cX (p : Program) (s : State) (m : MethodId) (args : Array Value) (meth : Method) (c : Code) (cc : ByteArray) (own : String) (nL : Nat) (ret : Option FieldType) (Ts : List Cond) (D : va_G) (cy : cyS) (G : gS) (A : Nat → Prop) : Prop :=
  p.tables.exec = Jvm.exec ∧ c.code = cc ∧ c.maxLocals = nL ∧ s.vm.findClass own = some m.cls ∧ (∀ w ∈ Ts, w.before args s = true) ∧ meth.sig.returnType = ret ∧ meth.locks = false ∧ va_K D vwCl (tY cy) s ∧ (∀ q : Nat, s.heap.size ≤ q → A q) ∧ wt G ∧ sx D A s s.heap
theorem cX_x {p : Program} {s : State} {m : MethodId} {args : Array Value} {meth : Method} {c : Code} {cc : ByteArray} {own : String} {nL : Nat} {ret : Option FieldType} {Ts : List Cond} {D : va_G} {cy : cyS} {G : gS} {A : Nat → Prop} (h : cX p s m args meth c cc own nL ret Ts D cy G A) : p.tables.exec = Jvm.exec := h.1
theorem cX_b {p : Program} {s : State} {m : MethodId} {args : Array Value} {meth : Method} {c : Code} {cc : ByteArray} {own : String} {nL : Nat} {ret : Option FieldType} {Ts : List Cond} {D : va_G} {cy : cyS} {G : gS} {A : Nat → Prop} (h : cX p s m args meth c cc own nL ret Ts D cy G A) : c.code = cc := h.2.1
theorem wt_q {G : gS} (hG : wt G) {a ci j q : Nat} (ha : a ∈ gL G) (hk : gK G a = ci) (h : gP G a j = some q) : q ∈ gL G ∧ gK G q = tk ci j := by
  subst hk
  exact hG a ha j q h
section PoolRows
variable {p : Program} {l : Launch} {e : Env} {R : Room} {s : State} {m : MethodId} {args : Array Value} {below : List Frame} {meth : Method} {c : Code} {H : Heap} {locs : List Loc} {cells slots : Nat} {Q : State → Prop} {cc : ByteArray} {own : String} {nL : Nat} {ret : Option FieldType} {Ts : List Cond} {D : va_G} {cy : cyS} {G : gS} {M : mS} {A : Nat → Prop} {pc : Nat} {ls : Array Slot} {rest : List Value} {a : Nat}
theorem wd_obj (w : wd D cy G M A s.heap H locs) {ci : Nat} (hL : a ∈ gL G) (hk : gK G a = ci) (hci : ci < 12) : ∃ k : Nat, (pl cy G M)[k]? = some (a, .inr (ci, pfs ci (gP G a) (mI M a))) := by
  obtain ⟨k, h⟩ := pl_at (cy := cy) (M := M) hL
  exact ⟨k, by rw [h, pf_obj hk hci]⟩
/-- getfield of a number -/
theorem r_getI (cx : cX p s m args meth c cc own nL ret Ts D cy G A) (w : wd D cy G M A s.heap H locs) {ci k N index : Nat} {C : String} {T : u_T} (hL : a ∈ gL G) (hk : gK G a = ci) (hci : ci < 12) (hc : vwCl[ci]? = some (C, T, N)) (hin : ∀ w ∈ u_ws C T N, w ∈ Ts) (hkN : k < N) {v : Value} (hv : (pfs ci (gP G a) (mI M a))[k]? = some v) (hlink : Cond.fieldLink own index (T k).1 (T k).2.1 (T k).2.2.1 ∈ Ts) (hdg : decode cc pc = .ok (.getfield index, 3))
    (kk : W p l e R s m args below meth c H locs cells slots Q (F0 m (pc + 3) ls (v :: rest))) : W p l e R s m args below meth c H locs cells slots Q (F0 m pc ls (.ref a :: rest)) := by
  obtain ⟨hx, hb, hml, hown, hts, hr, hlocks, hK, hA, hG, hsx⟩ := cx
  obtain ⟨hP, hD, hS⟩ := id w
  obtain ⟨q0, h0⟩ := wd_obj w hL hk hci
  exact va_get hx hb hts hin hown hK hP q0 h0 hc k hkN (hts _ hlink) (fun _ h => h) hv hdg kk
/-- getfield of a reference that isn't null -/
theorem r_getR (cx : cX p s m args meth c cc own nL ret Ts D cy G A) (w : wd D cy G M A s.heap H locs) {ci k N index : Nat} {C : String} {T : u_T} (hL : a ∈ gL G) (hk : gK G a = ci) (hci : ci < 12) (hc : vwCl[ci]? = some (C, T, N)) (hin : ∀ w ∈ u_ws C T N, w ∈ Ts) (hkN : k < N) (hv : (pfs ci (gP G a) (mI M a))[k]? = some (va_rf (gP G a k))) {q : Nat} (hq : gP G a k = some q) (hlink : Cond.fieldLink own index (T k).1 (T k).2.1 (T k).2.2.1 ∈ Ts) (hdg : decode cc pc = .ok (.getfield index, 3))
    (kk : W p l e R s m args below meth c H locs cells slots Q (F0 m (pc + 3) ls (.ref q :: rest))) : W p l e R s m args below meth c H locs cells slots Q (F0 m pc ls (.ref a :: rest)) := by
  rw [hq] at hv
  exact r_getI cx w hL hk hci hc hin hkN hv hlink hdg kk
/-- putfield of a number -/
theorem r_putI (cx : cX p s m args meth c cc own nL ret Ts D cy G A) (w : wd D cy G M A s.heap H locs) {ci k N index : Nat} {C : String} {T : u_T} (ty0 : Nat → FieldType) (hty : ∀ k, k < N → parseFieldDescriptor (T k).2.2.1 = some (ty0 k)) (hnm : ∀ a, a < N → ∀ b, b < N → a ≠ b → (T a).2.1 ≠ (T b).2.1) (hL : a ∈ gL G) (hk : gK G a = ci) (hci : ci < 12) (hc : vwCl[ci]? = some (C, T, N)) (hin : ∀ w ∈ u_ws C T N, w ∈ Ts) (hkN : k < N) (hfin : (T k).2.2.2 = false) {ty : FieldType} {v : Int32} (hd : parseFieldDescriptor (T k).2.2.1 = some ty) (hn : narrow ty (.int v) = .int v) (hfit : fits ty (.int v) = true) (hst : ∀ (P : Nat → Option Nat) (I : Nat → Int32) (v : Int32), pfs ci P (upd I k v) = (pfs ci P I).set k (.int v)) (hlen : k < (pfs ci (gP G a) (mI M a)).length) (hlink : Cond.fieldLink own index (T k).1 (T k).2.1 (T k).2.2.1 ∈ Ts) (hdg : decode cc pc = .ok (.putfield index, 3)) {M1 : mS} (hM : M1 = wI M a k v)
    (kk : ∀ (H1 : Heap) (locs1 : List Loc), wd D cy G M1 A s.heap H1 locs1 → W p l e R s m args below meth c H1 locs1 cells slots Q (F0 m (pc + 3) ls rest)) : W p l e R s m args below meth c H locs cells slots Q (F0 m pc ls (.int v :: .ref a :: rest)) := by
  obtain ⟨hx, hb, hml, hown, hts, hr, hlocks, hK, hA, hG, hsx⟩ := cx
  obtain ⟨hP, hD, hS⟩ := id w
  obtain ⟨q0, h1⟩ := pl_at (cy := cy) (M := M) hL
  have h0 := h1
  rw [pf_obj hk hci] at h0
  refine va_put hx hb hts hin ty0 hty hnm hown hK hP hD hS q0 h0 hc k hkN (hts _ hlink) (fun _ h => h) hfin hd hn hfit hlen hdg (fun H1 locs1 hP1 hD1 hS1 => ?_)
  have e := pl_set (e := .inr (ci, (pfs ci (gP G a) (mI M a)).set k (.int v))) (M1 := M1) hD hL h1 (by rw [pf_obj hk hci, ← hst, hM, mI_wI_eq]) (fun b hb => pf_other (by rw [hM, mI_wI_ne hb]) (by rw [hM]; rfl))
  rw [e] at hP1 hD1
  exact kk H1 locs1 ⟨hP1, hD1, hS1⟩
/-- rows of ints, longs, ants -/
theorem r_iald (cx : cX p s m args meth c cc own nL ret Ts D cy G A) (w : wd D cy G M A s.heap H locs) (hL : a ∈ gL G) (hk : gK G a = 12) {i : Int32} (hin : vp_in i (gN G a)) (hdg : decode cc pc = .ok (.iaload, 1))
    (kk : W p l e R s m args below meth c H locs cells slots Q (F0 m (pc + 1) ls (.int (mI M a i.toNatClampNeg) :: rest))) : W p l e R s m args below meth c H locs cells slots Q (F0 m pc ls (.int i :: .ref a :: rest)) := by
  obtain ⟨hx, hb, hml, hown, hts, hr, hlocks, hK, hA, hG, hsx⟩ := cx
  obtain ⟨hP, hD, hS⟩ := id w
  obtain ⟨q0, h0⟩ := pl_at (cy := cy) (M := M) hL
  rw [pf_I hk] at h0
  exact va_iald hx hb hK hP q0 0 h0 rfl hin hdg kk
theorem r_lald (cx : cX p s m args meth c cc own nL ret Ts D cy G A) (w : wd D cy G M A s.heap H locs) (hL : a ∈ gL G) (hk : gK G a = 13) {i : Int32} (hin : vp_in i (gN G a)) (hdg : decode cc pc = .ok (.laload, 1))
    (kk : W p l e R s m args below meth c H locs cells slots Q (F0 m (pc + 1) ls (.long (mJ M a i.toNatClampNeg) :: rest))) : W p l e R s m args below meth c H locs cells slots Q (F0 m pc ls (.int i :: .ref a :: rest)) := by
  obtain ⟨hx, hb, hml, hown, hts, hr, hlocks, hK, hA, hG, hsx⟩ := cx
  obtain ⟨hP, hD, hS⟩ := id w
  obtain ⟨q0, h0⟩ := pl_at (cy := cy) (M := M) hL
  rw [pf_J hk] at h0
  exact va_lald hx hb hK hP q0 1 h0 rfl hin hdg kk
theorem r_aald (cx : cX p s m args meth c cc own nL ret Ts D cy G A) (w : wd D cy G M A s.heap H locs) (hL : a ∈ gL G) (hk : gK G a = 14) {i : Int32} (hin : vp_in i (gN G a)) {q : Nat} (hq : gP G a i.toNatClampNeg = some q) (hdg : decode cc pc = .ok (.aaload, 1))
    (kk : W p l e R s m args below meth c H locs cells slots Q (F0 m (pc + 1) ls (.ref q :: rest))) : W p l e R s m args below meth c H locs cells slots Q (F0 m pc ls (.int i :: .ref a :: rest)) := by
  obtain ⟨hx, hb, hml, hown, hts, hr, hlocks, hK, hA, hG, hsx⟩ := cx
  obtain ⟨hP, hD, hS⟩ := id w
  obtain ⟨q0, h0⟩ := pl_at (cy := cy) (M := M) hL
  rw [pf_R hk] at h0
  refine va_aldq hx hb hK hP q0 2 h0 rfl hin hdg ?_
  rw [hq]
  exact kk
theorem r_alen (cx : cX p s m args meth c cc own nL ret Ts D cy G A) (w : wd D cy G M A s.heap H locs) (hL : a ∈ gL G) {ci : Nat} (hk : gK G a = ci) (hci : 12 ≤ ci ∧ ci ≤ 16) (hdg : decode cc pc = .ok (.arraylength, 1))
    (kk : W p l e R s m args below meth c H locs cells slots Q (F0 m (pc + 1) ls (.int (Int32.ofNat (gN G a)) :: rest))) : W p l e R s m args below meth c H locs cells slots Q (F0 m pc ls (.ref a :: rest)) := by
  obtain ⟨hx, hb, hml, hown, hts, hr, hlocks, hK, hA, hG, hsx⟩ := cx
  obtain ⟨hP, hD, hS⟩ := id w
  obtain ⟨q0, h0⟩ := pl_at (cy := cy) (M := M) hL
  rcases (show ci = 12 ∨ ci = 13 ∨ ci = 14 ∨ ci = 15 ∨ ci = 16 by omega) with rfl | rfl | rfl | rfl | rfl
  · rw [pf_I hk] at h0
    exact va_alen hx hb hK hP q0 0 h0 (ty := .int) rfl rfl hdg kk
  · rw [pf_J hk] at h0
    exact va_alen hx hb hK hP q0 1 h0 (ty := .long) rfl rfl hdg kk
  · rw [pf_R hk] at h0
    exact va_alen hx hb hK hP q0 2 h0 (ty := .object "FlagAnts$Ant") rfl rfl hdg kk
  · rw [pf_A hk] at h0
    exact va_alen hx hb hK hP q0 3 h0 (ty := .array .int) rfl rfl hdg kk
  · rw [pf_B hk] at h0
    exact va_alen hx hb hK hP q0 4 h0 (ty := .byte) rfl rfl hdg kk
theorem r_aaldA (cx : cX p s m args meth c cc own nL ret Ts D cy G A) (w : wd D cy G M A s.heap H locs) (hL : a ∈ gL G) (hk : gK G a = 15) {i : Int32} (hin : vp_in i (gN G a)) {q : Nat} (hq : gP G a i.toNatClampNeg = some q) (hdg : decode cc pc = .ok (.aaload, 1))
    (kk : W p l e R s m args below meth c H locs cells slots Q (F0 m (pc + 1) ls (.ref q :: rest))) : W p l e R s m args below meth c H locs cells slots Q (F0 m pc ls (.int i :: .ref a :: rest)) := by
  obtain ⟨hx, hb, hml, hown, hts, hr, hlocks, hK, hA, hG, hsx⟩ := cx
  obtain ⟨hP, hD, hS⟩ := id w
  obtain ⟨q0, h0⟩ := pl_at (cy := cy) (M := M) hL
  rw [pf_A hk] at h0
  refine ar_ald hx hb hK hP q0 3 h0 rfl hin hdg ?_
  rw [hq]
  exact kk
theorem r_pbald (cx : cX p s m args meth c cc own nL ret Ts D cy G A) (w : wd D cy G M A s.heap H locs) (hL : a ∈ gL G) (hk : gK G a = 16) {i : Int32} (hin : vp_in i (gN G a)) (hdg : decode cc pc = .ok (.baload, 1))
    (kk : W p l e R s m args below meth c H locs cells slots Q (F0 m (pc + 1) ls (.int (mI M a i.toNatClampNeg) :: rest))) : W p l e R s m args below meth c H locs cells slots Q (F0 m pc ls (.int i :: .ref a :: rest)) := by
  obtain ⟨hx, hb, hml, hown, hts, hr, hlocks, hK, hA, hG, hsx⟩ := cx
  obtain ⟨hP, hD, hS⟩ := id w
  obtain ⟨q0, h0⟩ := pl_at (cy := cy) (M := M) hL
  rw [pf_B hk] at h0
  exact va_bald hx hb hK hP q0 4 h0 rfl hin hdg kk
theorem r_pbast (cx : cX p s m args meth c cc own nL ret Ts D cy G A) (w : wd D cy G M A s.heap H locs) (hL : a ∈ gL G) (hk : gK G a = 16) {i x : Int32} (hin : vp_in i (gN G a)) (hdg : decode cc pc = .ok (.bastore, 1)) {M1 : mS} (hM : M1 = wI M a i.toNatClampNeg (vp_nar .byte x))
    (kk : ∀ (H1 : Heap) (locs1 : List Loc), wd D cy G M1 A s.heap H1 locs1 → W p l e R s m args below meth c H1 locs1 cells slots Q (F0 m (pc + 1) ls rest)) : W p l e R s m args below meth c H locs cells slots Q (F0 m pc ls (.int x :: .int i :: .ref a :: rest)) := by
  obtain ⟨hx, hb, hml, hown, hts, hr, hlocks, hK, hA, hG, hsx⟩ := cx
  obtain ⟨hP, hD, hS⟩ := id w
  obtain ⟨q0, h1⟩ := pl_at (cy := cy) (M := M) hL
  have h0 := h1
  rw [pf_B hk] at h0
  refine va_bast hx hb hK hP hD hS q0 4 h0 rfl hin hdg (fun H1 locs1 hP1 hD1 hS1 => ?_)
  have e := pl_set (e := .inl (cy.2.2.2.2, gN G a, .inl (upd (mI M a) i.toNatClampNeg (vp_nar .byte x)))) (M1 := M1) hD hL h1 (by rw [pf_B hk, hM, mI_wI_eq]) (fun b hb => pf_other (by rw [hM, mI_wI_ne hb]) (by rw [hM]; rfl))
  rw [e] at hP1 hD1
  exact kk H1 locs1 ⟨hP1, hD1, hS1⟩
theorem r_iast (cx : cX p s m args meth c cc own nL ret Ts D cy G A) (w : wd D cy G M A s.heap H locs) (hL : a ∈ gL G) (hk : gK G a = 12) {i x : Int32} (hin : vp_in i (gN G a)) (hdg : decode cc pc = .ok (.iastore, 1)) {M1 : mS} (hM : M1 = wI M a i.toNatClampNeg x)
    (kk : ∀ (H1 : Heap) (locs1 : List Loc), wd D cy G M1 A s.heap H1 locs1 → W p l e R s m args below meth c H1 locs1 cells slots Q (F0 m (pc + 1) ls rest)) : W p l e R s m args below meth c H locs cells slots Q (F0 m pc ls (.int x :: .int i :: .ref a :: rest)) := by
  obtain ⟨hx, hb, hml, hown, hts, hr, hlocks, hK, hA, hG, hsx⟩ := cx
  obtain ⟨hP, hD, hS⟩ := id w
  obtain ⟨q0, h1⟩ := pl_at (cy := cy) (M := M) hL
  have h0 := h1
  rw [pf_I hk] at h0
  refine va_iast hx hb hK hP hD hS q0 0 h0 rfl hin hdg (fun H1 locs1 hP1 hD1 hS1 => ?_)
  have e := pl_set (e := .inl (cy.1, gN G a, .inl (upd (mI M a) i.toNatClampNeg x))) (M1 := M1) hD hL h1 (by rw [pf_I hk, hM, mI_wI_eq]) (fun b hb => pf_other (by rw [hM, mI_wI_ne hb]) (by rw [hM]; rfl))
  rw [e] at hP1 hD1
  exact kk H1 locs1 ⟨hP1, hD1, hS1⟩
theorem r_last (cx : cX p s m args meth c cc own nL ret Ts D cy G A) (w : wd D cy G M A s.heap H locs) (hL : a ∈ gL G) (hk : gK G a = 13) {i : Int32} {x : Int64} (hin : vp_in i (gN G a)) (hdg : decode cc pc = .ok (.lastore, 1)) {M1 : mS} (hM : M1 = wJ M a i.toNatClampNeg x)
    (kk : ∀ (H1 : Heap) (locs1 : List Loc), wd D cy G M1 A s.heap H1 locs1 → W p l e R s m args below meth c H1 locs1 cells slots Q (F0 m (pc + 1) ls rest)) : W p l e R s m args below meth c H locs cells slots Q (F0 m pc ls (.long x :: .int i :: .ref a :: rest)) := by
  obtain ⟨hx, hb, hml, hown, hts, hr, hlocks, hK, hA, hG, hsx⟩ := cx
  obtain ⟨hP, hD, hS⟩ := id w
  obtain ⟨q0, h1⟩ := pl_at (cy := cy) (M := M) hL
  have h0 := h1
  rw [pf_J hk] at h0
  refine va_last hx hb hK hP hD hS q0 1 h0 rfl hin hdg (fun H1 locs1 hP1 hD1 hS1 => ?_)
  have e := pl_set (e := .inl (cy.2.1, gN G a, .inr (.inl (vp_updL (mJ M a) i.toNatClampNeg x)))) (M1 := M1) hD hL h1 (by rw [pf_J hk, hM, mJ_wJ_eq]) (fun b hb => pf_other (by rw [hM]; rfl) (by rw [hM, mJ_wJ_ne hb]))
  rw [e] at hP1 hD1
  exact kk H1 locs1 ⟨hP1, hD1, hS1⟩
/-- the static rows -/
theorem r_gets (cx : cX p s m args meth c cc own nL ret Ts D cy G A) (w : wd D cy G M A s.heap H locs) {nm : String} {f : Nat → Int32} {index : Nat} (h : sx1 nm f A s s.heap) (hlink : Cond.fieldLink own index "FlagAnts$Ant" nm "[I" ∈ Ts) (hdg : decode cc pc = .ok (.getstatic index, 3))
    (kk : ∀ b : Nat, va_T .int b 4 (fun j => .int (f j)) A s s.heap → W p l e R s m args below meth c H locs cells slots Q (F0 m (pc + 3) ls (.ref b :: rest))) : W p l e R s m args below meth c H locs cells slots Q (F0 m pc ls rest) := by
  obtain ⟨hx, hb, hml, hown, hts, hr, hlocks, hK, hA, hG, hsx⟩ := cx
  obtain ⟨b, h1, h2⟩ := h
  exact va_gets hx hb h1 w.2.2 hown (hts _ hlink) (fun _ h => h) hdg (kk b h2)
theorem r_sld (cx : cX p s m args meth c cc own nL ret Ts D cy G A) (w : wd D cy G M A s.heap H locs) {f : Nat → Int32} (h : va_T .int a 4 (fun j => .int (f j)) A s s.heap) {i : Int32} (hin : vp_in i 4) (hdg : decode cc pc = .ok (.iaload, 1))
    (kk : W p l e R s m args below meth c H locs cells slots Q (F0 m (pc + 1) ls (.int (f i.toNatClampNeg) :: rest))) : W p l e R s m args below meth c H locs cells slots Q (F0 m pc ls (.int i :: .ref a :: rest)) :=
  va_ti (cX_x cx) (cX_b cx) h w.2.2 hin rfl hdg kk

/-- a method's end -/
theorem r_iret (cx : cX p s m args meth c cc own nL (some .int) Ts D cy G A) (w : wd D cy G M A s.heap H locs) {M' : mS} {v r : Int32} (h : some (M, v) = some (M', r)) (hdg : decode cc pc = .ok (.ireturn, 1)) : W p l e R s m args below meth c H locs cells slots (MQ below (va_Qi (fun (r' : Int32) (_ : Unit) => r' = r) (fun _ t => wOut D cy G M' t) A) args s cells slots A) (F0 m pc ls [.int v]) := by
  cases h
  obtain ⟨hx, hb, hml, hown, hts, hr, hlocks, hK, hA, hG, hsx⟩ := cx
  exact W.iret hx hb hr (fun t ht hW => ⟨⟨v, (), rfl, rfl, by show va_P _ _ _ _; rw [ht]; exact w.1⟩, w.2.2.F ht⟩) w.2.2.2.2 hdg hlocks
theorem r_zret (cx : cX p s m args meth c cc own nL (some .boolean) Ts D cy G A) (w : wd D cy G M A s.heap H locs) {M' : mS} {v r : Int32} (hz : v = 0 ∨ v = 1) (h : some (M, v) = some (M', r)) (hdg : decode cc pc = .ok (.ireturn, 1)) : W p l e R s m args below meth c H locs cells slots (MQ below (va_Qi (fun (r' : Int32) (_ : Unit) => r' = r) (fun _ t => wOut D cy G M' t) A) args s cells slots A) (F0 m pc ls [.int v]) := by
  cases h
  obtain ⟨hx, hb, hml, hown, hts, hr, hlocks, hK, hA, hG, hsx⟩ := cx
  exact W.zret (ty := .boolean) hx hb hr (by rcases hz with rfl | rfl <;> rfl) (fun t ht hW => ⟨⟨v, (), rfl, rfl, by show va_P _ _ _ _; rw [ht]; exact w.1⟩, w.2.2.F ht⟩) w.2.2.2.2 hdg hlocks
theorem r_lret (cx : cX p s m args meth c cc own nL (some .long) Ts D cy G A) (w : wd D cy G M A s.heap H locs) {M' : mS} {v r : Int64} (h : some (M, v) = some (M', r)) (hdg : decode cc pc = .ok (.lreturn, 1)) : W p l e R s m args below meth c H locs cells slots (MQ below (va_Ql (fun (r' : Int64) (_ : Unit) => r' = r) (fun _ t => wOut D cy G M' t) A) args s cells slots A) (F0 m pc ls [.long v]) := by
  cases h
  obtain ⟨hx, hb, hml, hown, hts, hr, hlocks, hK, hA, hG, hsx⟩ := cx
  exact W.lret hx hb hr (fun t ht hW => ⟨⟨v, (), rfl, rfl, by show va_P _ _ _ _; rw [ht]; exact w.1⟩, w.2.2.F ht⟩) w.2.2.2.2 hdg hlocks
theorem r_dret (cx : cX p s m args meth c cc own nL (some .double) Ts D cy G A) (w : wd D cy G M A s.heap H locs) {M' : mS} {v r : UInt64} (h : some (M, v) = some (M', r)) (hdg : decode cc pc = .ok (.dreturn, 1)) : W p l e R s m args below meth c H locs cells slots (MQ below (va_Qd (fun (r' : UInt64) (_ : Unit) => r' = r) (fun _ t => wOut D cy G M' t) A) args s cells slots A) (F0 m pc ls [.double v]) := by
  cases h
  obtain ⟨hx, hb, hml, hown, hts, hr, hlocks, hK, hA, hG, hsx⟩ := cx
  exact W.dret hx hb hr (fun t ht hW => ⟨⟨v, (), rfl, rfl, by show va_P _ _ _ _; rw [ht]; exact w.1⟩, w.2.2.F ht⟩) w.2.2.2.2 hdg hlocks
theorem r_vret (cx : cX p s m args meth c cc own nL none Ts D cy G A) (w : wd D cy G M A s.heap H locs) {M' : mS} {v r : Unit} (h : some (M, v) = some (M', r)) (hdg : decode cc pc = .ok (.return_, 1)) : W p l e R s m args below meth c H locs cells slots (MQ below (va_Qv (fun (_ : Unit) => True) (fun _ t => wOut D cy G M' t) A) args s cells slots A) (F0 m pc ls []) := by
  cases h
  obtain ⟨hx, hb, hml, hown, hts, hr, hlocks, hK, hA, hG, hsx⟩ := cx
  exact W.vret hx hb hr (fun t ht hW => ⟨⟨(), rfl, trivial, by show va_P _ _ _ _; rw [ht]; exact w.1⟩, w.2.2.F ht⟩) w.2.2.2.2 hdg hlocks
theorem r_aret {nm : String} (cx : cX p s m args meth c cc own nL (some (.object nm)) Ts D cy G A) (w : wd D cy G M A s.heap H locs) {M' : mS} {v r : Nat} (h : some (M, v) = some (M', r)) (hdg : decode cc pc = .ok (.areturn, 1)) : W p l e R s m args below meth c H locs cells slots (MQ below (va_Qr (fun (_ : Unit) => True) (fun _ a t => a = r ∧ wOut D cy G M' t) A) args s cells slots A) (F0 m pc ls [.ref v]) := by
  cases h
  obtain ⟨hx, hb, hml, hown, hts, hr, hlocks, hK, hA, hG, hsx⟩ := cx
  exact W.aret (rt := .object nm) hx hb hr (Or.inl ⟨nm, rfl⟩) (Or.inr ⟨v, rfl⟩) (fun t ht hW => ⟨⟨(), v, rfl, trivial, rfl, by show va_P _ _ _ _; rw [ht]; exact w.1⟩, w.2.2.F ht⟩) w.2.2.2.2 hdg hlocks
end PoolRows
section PoolCalls
variable {p : Program} {l : Launch} {e : Env} {R : Room} {s : State} {m : MethodId} {args : Array Value} {below : List Frame} {meth : Method} {c : Code} {H : Heap} {locs : List Loc} {cells slots : Nat} {Q : State → Prop} {cc : ByteArray} {own : String} {nL : Nat} {ret : Option FieldType} {Ts : List Cond} {D : va_G} {cy : cyS} {G : gS} {M M1 : mS} {A : Nat → Prop} {pc : Nat} {ls : Array Slot} {rest st0 : List Value} {a : Nat}
variable {y : MethodName} {bytes : ByteArray} {maxL n index : Nat} {yret : Option FieldType} {ws : List Cond} {rm : Room} {C : String} {As : List Value}
theorem wd_pre (cx : cX p s m args meth c cc own nL ret Ts D cy G A) (w : wd D cy G M A s.heap H locs) (av : List Value) : ∀ U : State, U.heap = H → s.WarmedH U.vm → va_Pc av (wIn D cy G M H.size) av.toArray U := by
  intro U hU hW
  obtain ⟨hx, hb, hml, hown, hts, hr, hlocks, hK, hA, hG, hsx⟩ := cx
  obtain ⟨hP, hD, hS⟩ := id w
  subst hU
  refine ⟨rfl, rfl, hP, va_K.moved hW.alike hK, pl_D hD (fun _ _ => trivial), ?_⟩
  refine sx_warm hW (sx_kept hsx hS.1 hS.2.1 (fun q hq => ?_))
  rcases hq with hq | hq
  · exact pl_in hD q hq
  · exact hA q (Nat.le_trans hS.1 hq)
theorem wd_free (cx : cX p s m args meth c cc own nL ret Ts D cy G A) (w : wd D cy G M A s.heap H locs) : ∀ q : Nat, pA G H.size q → A q := by
  obtain ⟨hx, hb, hml, hown, hts, hr, hlocks, hK, hA, hG, hsx⟩ := cx
  intro q hq
  rcases hq with hq | hq
  · exact pl_in w.2.1 q hq
  · exact hA q (Nat.le_trans w.2.2.1 hq)
theorem wd_recv (cx : cX p s m args meth c cc own nL ret Ts D cy G A) (w : wd D cy G M A s.heap H locs) {ci : Nat} {T : u_T} {N : Nat} (hL : a ∈ gL G) (hk : gK G a = ci) (hci : ci < 12) (hc : vwCl[ci]? = some (C, T, N)) : ∃ cellB : Cell, H[a]? = some cellB ∧ cellB.vm.isStatics = false ∧ s.vm.findClass C = some cellB.cls := by
  obtain ⟨hx, hb, hml, hown, hts, hr, hlocks, hK, hA, hG, hsx⟩ := cx
  obtain ⟨q0, h0⟩ := wd_obj w hL hk hci
  exact va_recv hK w.1 hc h0

theorem r_callVi (cx : cX p s m args meth c cc own nL ret Ts D cy G A) (w : wd D cy G M A s.heap H locs) (hcs : cells ≤ R.cells ∧ slots ≤ R.slots) (hls : ls.size = nL) {r : Int32} (hM : ctI l y ws rm D cy G M (.ref a :: As) M1 r) (cw : CallW R s args own C index y bytes maxL yret ws rm 0 0 n) {ci : Nat} {T : u_T} {N : Nat} (hL : a ∈ gL G) (hk : gK G a = ci) (hci : ci < 12) (hc : vwCl[ci]? = some (C, T, N)) (hn : As.length = n) (hst : st0 = As.reverse ++ .ref a :: rest) (hW : (rest.map fun v => v.category).sum ≤ 8) (hdg : decode cc pc = .ok (.invokevirtual index, 3))
    (kk : ∀ (H1 : Heap) (locs1 : List Loc), wd D cy G M1 A s.heap H1 locs1 → W p l e R s m args below meth c H1 locs1 cells slots Q (F0 m (pc + 3) ls (.int r :: rest))) : W p l e R s m args below meth c H locs cells slots Q (F0 m pc ls st0) := by
  have fr := wd_free cx w
  obtain ⟨hx, hb, hml, hown, hts, hr, hlocks, hK, hA, hG, hsx⟩ := id cx
  refine va_calli (va_runV (As := As) (rest := rest) ⟨hx, hb, hml, hown, hts⟩ (hM H.size) cw ⟨blind _ D cy G M H.size, wd_recv cx w hL hk hci hc, wd_pre cx w _⟩ rfl hn hls hst (lv_room hW) hdg hcs) w.2.2 (fun q _ h => fr q h) fr (fun r1 u t H1 locs1 ht hvm hq hB hz1 hk1 hS => ?_)
  subst hq
  have hP1 : va_P D vwCl (pl cy G M1) t.heap := hB
  rw [ht] at hP1
  exact kk H1 locs1 ⟨hP1, pl_D w.2.1 (pl_in w.2.1), hS⟩
theorem r_callSi (cx : cX p s m args meth c cc own nL ret Ts D cy G A) (w : wd D cy G M A s.heap H locs) (hcs : cells ≤ R.cells ∧ slots ≤ R.slots) (hls : ls.size = nL) {r : Int32} (hM : ctI l y ws rm D cy G M As M1 r) (cw : CallB R s args own index y bytes maxL yret ws rm 0 0 n ∧ (Cond.static y).before args s = true) (hn : As.length = n) (hst : st0 = As.reverse ++ rest) (hW : (rest.map fun v => v.category).sum ≤ 8) (hdg : decode cc pc = .ok (.invokestatic index, 3))
    (kk : ∀ (H1 : Heap) (locs1 : List Loc), wd D cy G M1 A s.heap H1 locs1 → W p l e R s m args below meth c H1 locs1 cells slots Q (F0 m (pc + 3) ls (.int r :: rest))) : W p l e R s m args below meth c H locs cells slots Q (F0 m pc ls st0) := by
  have fr := wd_free cx w
  obtain ⟨hx, hb, hml, hown, hts, hr, hlocks, hK, hA, hG, hsx⟩ := id cx
  refine va_calli (va_runS (As := As) (rest := rest) ⟨hx, hb, hml, hown, hts⟩ (hM H.size) cw ⟨blind _ D cy G M H.size, wd_pre cx w _⟩ rfl hn hls hst (lv_room hW) hdg hcs) w.2.2 (fun q _ h => fr q h) fr (fun r1 u t H1 locs1 ht hvm hq hB hz1 hk1 hS => ?_)
  subst hq
  have hP1 : va_P D vwCl (pl cy G M1) t.heap := hB
  rw [ht] at hP1
  exact kk H1 locs1 ⟨hP1, pl_D w.2.1 (pl_in w.2.1), hS⟩
theorem r_callVNi (cx : cX p s m args meth c cc own nL ret Ts D cy G A) (w : wd D cy G M A s.heap H locs) (hcs : cells ≤ R.cells ∧ slots ≤ R.slots) (hls : ls.size = nL) {r : Int32} (hM : ctI l y ws rm D cy G M (.ref a :: As) M1 r) {host : String} (cw : va_CN R s args own index y host bytes maxL yret ws rm 0 0 n ∧ (Cond.instanceMethod y).before args s = true ∧ (Cond.selects C y y).before args s = true) {ci : Nat} {T : u_T} {N : Nat} (hL : a ∈ gL G) (hk : gK G a = ci) (hci : ci < 12) (hc : vwCl[ci]? = some (C, T, N)) (hn : As.length = n) (hst : st0 = As.reverse ++ .ref a :: rest) (hW : (rest.map fun v => v.category).sum ≤ 8) (hdg : decode cc pc = .ok (.invokevirtual index, 3))
    (kk : ∀ (H1 : Heap) (locs1 : List Loc), wd D cy G M1 A s.heap H1 locs1 → W p l e R s m args below meth c H1 locs1 cells slots Q (F0 m (pc + 3) ls (.int r :: rest))) : W p l e R s m args below meth c H locs cells slots Q (F0 m pc ls st0) := by
  have fr := wd_free cx w
  obtain ⟨hx, hb, hml, hown, hts, hr, hlocks, hK, hA, hG, hsx⟩ := id cx
  refine va_calli (va_runVN (As := As) (rest := rest) ⟨hx, hb, hml, hown, hts⟩ (hM H.size) cw ⟨blind _ D cy G M H.size, wd_recv cx w hL hk hci hc, wd_pre cx w _⟩ rfl hn hls hst (lv_room hW) hdg hcs) w.2.2 (fun q _ h => fr q h) fr (fun r1 u t H1 locs1 ht hvm hq hB hz1 hk1 hS => ?_)
  subst hq
  have hP1 : va_P D vwCl (pl cy G M1) t.heap := hB
  rw [ht] at hP1
  exact kk H1 locs1 ⟨hP1, pl_D w.2.1 (pl_in w.2.1), hS⟩
theorem r_callSNi (cx : cX p s m args meth c cc own nL ret Ts D cy G A) (w : wd D cy G M A s.heap H locs) (hcs : cells ≤ R.cells ∧ slots ≤ R.slots) (hls : ls.size = nL) {r : Int32} (hM : ctI l y ws rm D cy G M As M1 r) {host : String} (cw : va_CN R s args own index y host bytes maxL yret ws rm 0 0 n ∧ (Cond.static y).before args s = true ∧ True) (hn : As.length = n) (hst : st0 = As.reverse ++ rest) (hW : (rest.map fun v => v.category).sum ≤ 8) (hdg : decode cc pc = .ok (.invokestatic index, 3))
    (kk : ∀ (H1 : Heap) (locs1 : List Loc), wd D cy G M1 A s.heap H1 locs1 → W p l e R s m args below meth c H1 locs1 cells slots Q (F0 m (pc + 3) ls (.int r :: rest))) : W p l e R s m args below meth c H locs cells slots Q (F0 m pc ls st0) := by
  have fr := wd_free cx w
  obtain ⟨hx, hb, hml, hown, hts, hr, hlocks, hK, hA, hG, hsx⟩ := id cx
  refine va_calli (va_runSN (As := As) (rest := rest) ⟨hx, hb, hml, hown, hts⟩ (hM H.size) cw ⟨blind _ D cy G M H.size, wd_pre cx w _⟩ rfl hn hls hst (lv_room hW) hdg hcs) w.2.2 (fun q _ h => fr q h) fr (fun r1 u t H1 locs1 ht hvm hq hB hz1 hk1 hS => ?_)
  subst hq
  have hP1 : va_P D vwCl (pl cy G M1) t.heap := hB
  rw [ht] at hP1
  exact kk H1 locs1 ⟨hP1, pl_D w.2.1 (pl_in w.2.1), hS⟩
theorem r_callVl (cx : cX p s m args meth c cc own nL ret Ts D cy G A) (w : wd D cy G M A s.heap H locs) (hcs : cells ≤ R.cells ∧ slots ≤ R.slots) (hls : ls.size = nL) {r : Int64} (hM : ctL l y ws rm D cy G M (.ref a :: As) M1 r) (cw : CallW R s args own C index y bytes maxL yret ws rm 0 0 n) {ci : Nat} {T : u_T} {N : Nat} (hL : a ∈ gL G) (hk : gK G a = ci) (hci : ci < 12) (hc : vwCl[ci]? = some (C, T, N)) (hn : As.length = n) (hst : st0 = As.reverse ++ .ref a :: rest) (hW : (rest.map fun v => v.category).sum ≤ 8) (hdg : decode cc pc = .ok (.invokevirtual index, 3))
    (kk : ∀ (H1 : Heap) (locs1 : List Loc), wd D cy G M1 A s.heap H1 locs1 → W p l e R s m args below meth c H1 locs1 cells slots Q (F0 m (pc + 3) ls (.long r :: rest))) : W p l e R s m args below meth c H locs cells slots Q (F0 m pc ls st0) := by
  have fr := wd_free cx w
  obtain ⟨hx, hb, hml, hown, hts, hr, hlocks, hK, hA, hG, hsx⟩ := id cx
  refine va_calll (va_runV (As := As) (rest := rest) ⟨hx, hb, hml, hown, hts⟩ (hM H.size) cw ⟨blind _ D cy G M H.size, wd_recv cx w hL hk hci hc, wd_pre cx w _⟩ rfl hn hls hst (lv_room hW) hdg hcs) w.2.2 (fun q _ h => fr q h) fr (fun r1 u t H1 locs1 ht hvm hq hB hz1 hk1 hS => ?_)
  subst hq
  have hP1 : va_P D vwCl (pl cy G M1) t.heap := hB
  rw [ht] at hP1
  exact kk H1 locs1 ⟨hP1, pl_D w.2.1 (pl_in w.2.1), hS⟩
theorem r_callSl (cx : cX p s m args meth c cc own nL ret Ts D cy G A) (w : wd D cy G M A s.heap H locs) (hcs : cells ≤ R.cells ∧ slots ≤ R.slots) (hls : ls.size = nL) {r : Int64} (hM : ctL l y ws rm D cy G M As M1 r) (cw : CallB R s args own index y bytes maxL yret ws rm 0 0 n ∧ (Cond.static y).before args s = true) (hn : As.length = n) (hst : st0 = As.reverse ++ rest) (hW : (rest.map fun v => v.category).sum ≤ 8) (hdg : decode cc pc = .ok (.invokestatic index, 3))
    (kk : ∀ (H1 : Heap) (locs1 : List Loc), wd D cy G M1 A s.heap H1 locs1 → W p l e R s m args below meth c H1 locs1 cells slots Q (F0 m (pc + 3) ls (.long r :: rest))) : W p l e R s m args below meth c H locs cells slots Q (F0 m pc ls st0) := by
  have fr := wd_free cx w
  obtain ⟨hx, hb, hml, hown, hts, hr, hlocks, hK, hA, hG, hsx⟩ := id cx
  refine va_calll (va_runS (As := As) (rest := rest) ⟨hx, hb, hml, hown, hts⟩ (hM H.size) cw ⟨blind _ D cy G M H.size, wd_pre cx w _⟩ rfl hn hls hst (lv_room hW) hdg hcs) w.2.2 (fun q _ h => fr q h) fr (fun r1 u t H1 locs1 ht hvm hq hB hz1 hk1 hS => ?_)
  subst hq
  have hP1 : va_P D vwCl (pl cy G M1) t.heap := hB
  rw [ht] at hP1
  exact kk H1 locs1 ⟨hP1, pl_D w.2.1 (pl_in w.2.1), hS⟩
theorem r_callVd (cx : cX p s m args meth c cc own nL ret Ts D cy G A) (w : wd D cy G M A s.heap H locs) (hcs : cells ≤ R.cells ∧ slots ≤ R.slots) (hls : ls.size = nL) {r : UInt64} (hM : ctD l y ws rm D cy G M (.ref a :: As) M1 r) (cw : CallW R s args own C index y bytes maxL yret ws rm 0 0 n) {ci : Nat} {T : u_T} {N : Nat} (hL : a ∈ gL G) (hk : gK G a = ci) (hci : ci < 12) (hc : vwCl[ci]? = some (C, T, N)) (hn : As.length = n) (hst : st0 = As.reverse ++ .ref a :: rest) (hW : (rest.map fun v => v.category).sum ≤ 8) (hdg : decode cc pc = .ok (.invokevirtual index, 3))
    (kk : ∀ (H1 : Heap) (locs1 : List Loc), wd D cy G M1 A s.heap H1 locs1 → W p l e R s m args below meth c H1 locs1 cells slots Q (F0 m (pc + 3) ls (.double r :: rest))) : W p l e R s m args below meth c H locs cells slots Q (F0 m pc ls st0) := by
  have fr := wd_free cx w
  obtain ⟨hx, hb, hml, hown, hts, hr, hlocks, hK, hA, hG, hsx⟩ := id cx
  refine va_calld (va_runV (As := As) (rest := rest) ⟨hx, hb, hml, hown, hts⟩ (hM H.size) cw ⟨blind _ D cy G M H.size, wd_recv cx w hL hk hci hc, wd_pre cx w _⟩ rfl hn hls hst (lv_room hW) hdg hcs) w.2.2 (fun q _ h => fr q h) fr (fun r1 u t H1 locs1 ht hvm hq hB hz1 hk1 hS => ?_)
  subst hq
  have hP1 : va_P D vwCl (pl cy G M1) t.heap := hB
  rw [ht] at hP1
  exact kk H1 locs1 ⟨hP1, pl_D w.2.1 (pl_in w.2.1), hS⟩
theorem r_callSd (cx : cX p s m args meth c cc own nL ret Ts D cy G A) (w : wd D cy G M A s.heap H locs) (hcs : cells ≤ R.cells ∧ slots ≤ R.slots) (hls : ls.size = nL) {r : UInt64} (hM : ctD l y ws rm D cy G M As M1 r) (cw : CallB R s args own index y bytes maxL yret ws rm 0 0 n ∧ (Cond.static y).before args s = true) (hn : As.length = n) (hst : st0 = As.reverse ++ rest) (hW : (rest.map fun v => v.category).sum ≤ 8) (hdg : decode cc pc = .ok (.invokestatic index, 3))
    (kk : ∀ (H1 : Heap) (locs1 : List Loc), wd D cy G M1 A s.heap H1 locs1 → W p l e R s m args below meth c H1 locs1 cells slots Q (F0 m (pc + 3) ls (.double r :: rest))) : W p l e R s m args below meth c H locs cells slots Q (F0 m pc ls st0) := by
  have fr := wd_free cx w
  obtain ⟨hx, hb, hml, hown, hts, hr, hlocks, hK, hA, hG, hsx⟩ := id cx
  refine va_calld (va_runS (As := As) (rest := rest) ⟨hx, hb, hml, hown, hts⟩ (hM H.size) cw ⟨blind _ D cy G M H.size, wd_pre cx w _⟩ rfl hn hls hst (lv_room hW) hdg hcs) w.2.2 (fun q _ h => fr q h) fr (fun r1 u t H1 locs1 ht hvm hq hB hz1 hk1 hS => ?_)
  subst hq
  have hP1 : va_P D vwCl (pl cy G M1) t.heap := hB
  rw [ht] at hP1
  exact kk H1 locs1 ⟨hP1, pl_D w.2.1 (pl_in w.2.1), hS⟩
theorem r_callVv (cx : cX p s m args meth c cc own nL ret Ts D cy G A) (w : wd D cy G M A s.heap H locs) (hcs : cells ≤ R.cells ∧ slots ≤ R.slots) (hls : ls.size = nL) (hM : ctV l y ws rm D cy G M (.ref a :: As) M1) (cw : CallW R s args own C index y bytes maxL yret ws rm 0 0 n) {ci : Nat} {T : u_T} {N : Nat} (hL : a ∈ gL G) (hk : gK G a = ci) (hci : ci < 12) (hc : vwCl[ci]? = some (C, T, N)) (hn : As.length = n) (hst : st0 = As.reverse ++ .ref a :: rest) (hW : (rest.map fun v => v.category).sum ≤ 8) (hdg : decode cc pc = .ok (.invokevirtual index, 3))
    (kk : ∀ (H1 : Heap) (locs1 : List Loc), wd D cy G M1 A s.heap H1 locs1 → W p l e R s m args below meth c H1 locs1 cells slots Q (F0 m (pc + 3) ls rest)) : W p l e R s m args below meth c H locs cells slots Q (F0 m pc ls st0) := by
  have fr := wd_free cx w
  obtain ⟨hx, hb, hml, hown, hts, hr, hlocks, hK, hA, hG, hsx⟩ := id cx
  refine va_callv (va_runV (As := As) (rest := rest) ⟨hx, hb, hml, hown, hts⟩ (hM H.size) cw ⟨blind _ D cy G M H.size, wd_recv cx w hL hk hci hc, wd_pre cx w _⟩ rfl hn hls hst (lv_room hW) hdg hcs) w.2.2 (fun q _ h => fr q h) fr (fun u t H1 locs1 ht hvm hq hB hz1 hk1 hS => ?_)
  have hP1 : va_P D vwCl (pl cy G M1) t.heap := hB
  rw [ht] at hP1
  exact kk H1 locs1 ⟨hP1, pl_D w.2.1 (pl_in w.2.1), hS⟩
theorem r_callSv (cx : cX p s m args meth c cc own nL ret Ts D cy G A) (w : wd D cy G M A s.heap H locs) (hcs : cells ≤ R.cells ∧ slots ≤ R.slots) (hls : ls.size = nL) (hM : ctV l y ws rm D cy G M As M1) (cw : CallB R s args own index y bytes maxL yret ws rm 0 0 n ∧ (Cond.static y).before args s = true) (hn : As.length = n) (hst : st0 = As.reverse ++ rest) (hW : (rest.map fun v => v.category).sum ≤ 8) (hdg : decode cc pc = .ok (.invokestatic index, 3))
    (kk : ∀ (H1 : Heap) (locs1 : List Loc), wd D cy G M1 A s.heap H1 locs1 → W p l e R s m args below meth c H1 locs1 cells slots Q (F0 m (pc + 3) ls rest)) : W p l e R s m args below meth c H locs cells slots Q (F0 m pc ls st0) := by
  have fr := wd_free cx w
  obtain ⟨hx, hb, hml, hown, hts, hr, hlocks, hK, hA, hG, hsx⟩ := id cx
  refine va_callv (va_runS (As := As) (rest := rest) ⟨hx, hb, hml, hown, hts⟩ (hM H.size) cw ⟨blind _ D cy G M H.size, wd_pre cx w _⟩ rfl hn hls hst (lv_room hW) hdg hcs) w.2.2 (fun q _ h => fr q h) fr (fun u t H1 locs1 ht hvm hq hB hz1 hk1 hS => ?_)
  have hP1 : va_P D vwCl (pl cy G M1) t.heap := hB
  rw [ht] at hP1
  exact kk H1 locs1 ⟨hP1, pl_D w.2.1 (pl_in w.2.1), hS⟩
theorem r_callVr (cx : cX p s m args meth c cc own nL ret Ts D cy G A) (w : wd D cy G M A s.heap H locs) (hcs : cells ≤ R.cells ∧ slots ≤ R.slots) (hls : ls.size = nL) {r : Nat} (hM : ctR l y ws rm D cy G M (.ref a :: As) M1 r) (cw : CallW R s args own C index y bytes maxL yret ws rm 0 0 n) {ci : Nat} {T : u_T} {N : Nat} (hL : a ∈ gL G) (hk : gK G a = ci) (hci : ci < 12) (hc : vwCl[ci]? = some (C, T, N)) (hn : As.length = n) (hst : st0 = As.reverse ++ .ref a :: rest) (hW : (rest.map fun v => v.category).sum ≤ 8) (hdg : decode cc pc = .ok (.invokevirtual index, 3))
    (kk : ∀ (H1 : Heap) (locs1 : List Loc), wd D cy G M1 A s.heap H1 locs1 → W p l e R s m args below meth c H1 locs1 cells slots Q (F0 m (pc + 3) ls (.ref r :: rest))) : W p l e R s m args below meth c H locs cells slots Q (F0 m pc ls st0) := by
  have fr := wd_free cx w
  obtain ⟨hx, hb, hml, hown, hts, hr, hlocks, hK, hA, hG, hsx⟩ := id cx
  refine va_callr (va_runV (As := As) (rest := rest) ⟨hx, hb, hml, hown, hts⟩ (hM H.size) cw ⟨blind _ D cy G M H.size, wd_recv cx w hL hk hci hc, wd_pre cx w _⟩ rfl hn hls hst (lv_room hW) hdg hcs) w.2.2 (fun q _ h => fr q h) fr (fun u r1 t H1 locs1 ht hvm hq hB hz1 hk1 hS => ?_)
  obtain ⟨rfl, hB⟩ := hB
  have hP1 : va_P D vwCl (pl cy G M1) t.heap := hB
  rw [ht] at hP1
  exact kk H1 locs1 ⟨hP1, pl_D w.2.1 (pl_in w.2.1), hS⟩
theorem r_callSr (cx : cX p s m args meth c cc own nL ret Ts D cy G A) (w : wd D cy G M A s.heap H locs) (hcs : cells ≤ R.cells ∧ slots ≤ R.slots) (hls : ls.size = nL) {r : Nat} (hM : ctR l y ws rm D cy G M As M1 r) (cw : CallB R s args own index y bytes maxL yret ws rm 0 0 n ∧ (Cond.static y).before args s = true) (hn : As.length = n) (hst : st0 = As.reverse ++ rest) (hW : (rest.map fun v => v.category).sum ≤ 8) (hdg : decode cc pc = .ok (.invokestatic index, 3))
    (kk : ∀ (H1 : Heap) (locs1 : List Loc), wd D cy G M1 A s.heap H1 locs1 → W p l e R s m args below meth c H1 locs1 cells slots Q (F0 m (pc + 3) ls (.ref r :: rest))) : W p l e R s m args below meth c H locs cells slots Q (F0 m pc ls st0) := by
  have fr := wd_free cx w
  obtain ⟨hx, hb, hml, hown, hts, hr, hlocks, hK, hA, hG, hsx⟩ := id cx
  refine va_callr (va_runS (As := As) (rest := rest) ⟨hx, hb, hml, hown, hts⟩ (hM H.size) cw ⟨blind _ D cy G M H.size, wd_pre cx w _⟩ rfl hn hls hst (lv_room hW) hdg hcs) w.2.2 (fun q _ h => fr q h) fr (fun u r1 t H1 locs1 ht hvm hq hB hz1 hk1 hS => ?_)
  obtain ⟨rfl, hB⟩ := hB
  have hP1 : va_P D vwCl (pl cy G M1) t.heap := hB
  rw [ht] at hP1
  exact kk H1 locs1 ⟨hP1, pl_D w.2.1 (pl_in w.2.1), hS⟩
end PoolCalls
section PoolMet
variable {l : Launch} {y : MethodName} {ws ws' : List Cond} {rm : Room} {D : va_G} {cy : cyS} {G : gS} {M M1 : mS} {av : List Value} {cc : ByteArray} {nL : Nat} {ret : Option FieldType} {lv : List (Nat × Value)}
theorem ctI_of {r : Int32} (hG : wt G) (hy : plainName y.cls = true) (hw : ws = Cond.code y cc nL ret :: ws') (hrm : rm.cells = 0 ∧ rm.slots = 0) (hn : (lg_sl av).length ≤ nL) (hlv : lv_args 0 av = lv) (body : ∀ (p : Program) (e : Env) (s : State) (m : MethodId) (args : Array Value) (below : List Frame) (meth : Method) (c : Code) (A : Nat → Prop) (ls : Array Slot), cX p s m args meth c cc y.cls nL ret ws D cy G A → wd D cy G M A s.heap s.heap [] → lv_has ls nL lv → W p l e rm s m args below meth c s.heap [] 0 0 (MQ below (va_Qi (fun (r' : Int32) (_ : Unit) => r' = r) (fun _ t => wOut D cy G M1 t) A) args s 0 0 A) (F0 m 0 ls [])) : ctI l y ws rm D cy G M av M1 r := by
  intro sz
  refine Met.ofW (cc := cc) (maxL := nL) (ret := ret) hy hw ?_
  intro p e s m args below meth c s₁ B hml hv
  obtain ⟨rfl, hsz, hP, hK, hD0, hsx⟩ := hv
  subst hsz
  rw [lg_entry_eq]
  have hl := lv_entry av (n := nL) hn
  rw [hlv] at hl
  have hD : va_D (pA G s.heap.size) (pl cy G M) := pl_D hD0 (fun q hq => Or.inl hq)
  exact body p e s m _ below meth c (pA G s.heap.size) _ ⟨B.exec, B.bytes, hml, findClass_of_methodNamed B.named, atoms_spec (ws := ws) B.pre, B.returns, B.notSynchronized, hK, fun q h => Or.inr h, hG, hsx⟩ ⟨hP, hD, va_S.rf⟩ hl
theorem ctL_of {r : Int64} (hG : wt G) (hy : plainName y.cls = true) (hw : ws = Cond.code y cc nL ret :: ws') (hrm : rm.cells = 0 ∧ rm.slots = 0) (hn : (lg_sl av).length ≤ nL) (hlv : lv_args 0 av = lv) (body : ∀ (p : Program) (e : Env) (s : State) (m : MethodId) (args : Array Value) (below : List Frame) (meth : Method) (c : Code) (A : Nat → Prop) (ls : Array Slot), cX p s m args meth c cc y.cls nL ret ws D cy G A → wd D cy G M A s.heap s.heap [] → lv_has ls nL lv → W p l e rm s m args below meth c s.heap [] 0 0 (MQ below (va_Ql (fun (r' : Int64) (_ : Unit) => r' = r) (fun _ t => wOut D cy G M1 t) A) args s 0 0 A) (F0 m 0 ls [])) : ctL l y ws rm D cy G M av M1 r := by
  intro sz
  refine Met.ofW (cc := cc) (maxL := nL) (ret := ret) hy hw ?_
  intro p e s m args below meth c s₁ B hml hv
  obtain ⟨rfl, hsz, hP, hK, hD0, hsx⟩ := hv
  subst hsz
  rw [lg_entry_eq]
  have hl := lv_entry av (n := nL) hn
  rw [hlv] at hl
  have hD : va_D (pA G s.heap.size) (pl cy G M) := pl_D hD0 (fun q hq => Or.inl hq)
  exact body p e s m _ below meth c (pA G s.heap.size) _ ⟨B.exec, B.bytes, hml, findClass_of_methodNamed B.named, atoms_spec (ws := ws) B.pre, B.returns, B.notSynchronized, hK, fun q h => Or.inr h, hG, hsx⟩ ⟨hP, hD, va_S.rf⟩ hl
theorem ctD_of {r : UInt64} (hG : wt G) (hy : plainName y.cls = true) (hw : ws = Cond.code y cc nL ret :: ws') (hrm : rm.cells = 0 ∧ rm.slots = 0) (hn : (lg_sl av).length ≤ nL) (hlv : lv_args 0 av = lv) (body : ∀ (p : Program) (e : Env) (s : State) (m : MethodId) (args : Array Value) (below : List Frame) (meth : Method) (c : Code) (A : Nat → Prop) (ls : Array Slot), cX p s m args meth c cc y.cls nL ret ws D cy G A → wd D cy G M A s.heap s.heap [] → lv_has ls nL lv → W p l e rm s m args below meth c s.heap [] 0 0 (MQ below (va_Qd (fun (r' : UInt64) (_ : Unit) => r' = r) (fun _ t => wOut D cy G M1 t) A) args s 0 0 A) (F0 m 0 ls [])) : ctD l y ws rm D cy G M av M1 r := by
  intro sz
  refine Met.ofW (cc := cc) (maxL := nL) (ret := ret) hy hw ?_
  intro p e s m args below meth c s₁ B hml hv
  obtain ⟨rfl, hsz, hP, hK, hD0, hsx⟩ := hv
  subst hsz
  rw [lg_entry_eq]
  have hl := lv_entry av (n := nL) hn
  rw [hlv] at hl
  have hD : va_D (pA G s.heap.size) (pl cy G M) := pl_D hD0 (fun q hq => Or.inl hq)
  exact body p e s m _ below meth c (pA G s.heap.size) _ ⟨B.exec, B.bytes, hml, findClass_of_methodNamed B.named, atoms_spec (ws := ws) B.pre, B.returns, B.notSynchronized, hK, fun q h => Or.inr h, hG, hsx⟩ ⟨hP, hD, va_S.rf⟩ hl
theorem ctV_of (hG : wt G) (hy : plainName y.cls = true) (hw : ws = Cond.code y cc nL ret :: ws') (hrm : rm.cells = 0 ∧ rm.slots = 0) (hn : (lg_sl av).length ≤ nL) (hlv : lv_args 0 av = lv) (body : ∀ (p : Program) (e : Env) (s : State) (m : MethodId) (args : Array Value) (below : List Frame) (meth : Method) (c : Code) (A : Nat → Prop) (ls : Array Slot), cX p s m args meth c cc y.cls nL ret ws D cy G A → wd D cy G M A s.heap s.heap [] → lv_has ls nL lv → W p l e rm s m args below meth c s.heap [] 0 0 (MQ below (va_Qv (fun (_ : Unit) => True) (fun _ t => wOut D cy G M1 t) A) args s 0 0 A) (F0 m 0 ls [])) : ctV l y ws rm D cy G M av M1 := by
  intro sz
  refine Met.ofW (cc := cc) (maxL := nL) (ret := ret) hy hw ?_
  intro p e s m args below meth c s₁ B hml hv
  obtain ⟨rfl, hsz, hP, hK, hD0, hsx⟩ := hv
  subst hsz
  rw [lg_entry_eq]
  have hl := lv_entry av (n := nL) hn
  rw [hlv] at hl
  have hD : va_D (pA G s.heap.size) (pl cy G M) := pl_D hD0 (fun q hq => Or.inl hq)
  exact body p e s m _ below meth c (pA G s.heap.size) _ ⟨B.exec, B.bytes, hml, findClass_of_methodNamed B.named, atoms_spec (ws := ws) B.pre, B.returns, B.notSynchronized, hK, fun q h => Or.inr h, hG, hsx⟩ ⟨hP, hD, va_S.rf⟩ hl
theorem ctR_of {r : Nat} (hG : wt G) (hy : plainName y.cls = true) (hw : ws = Cond.code y cc nL ret :: ws') (hrm : rm.cells = 0 ∧ rm.slots = 0) (hn : (lg_sl av).length ≤ nL) (hlv : lv_args 0 av = lv) (body : ∀ (p : Program) (e : Env) (s : State) (m : MethodId) (args : Array Value) (below : List Frame) (meth : Method) (c : Code) (A : Nat → Prop) (ls : Array Slot), cX p s m args meth c cc y.cls nL ret ws D cy G A → wd D cy G M A s.heap s.heap [] → lv_has ls nL lv → W p l e rm s m args below meth c s.heap [] 0 0 (MQ below (va_Qr (fun (_ : Unit) => True) (fun _ a t => a = r ∧ wOut D cy G M1 t) A) args s 0 0 A) (F0 m 0 ls [])) : ctR l y ws rm D cy G M av M1 r := by
  intro sz
  refine Met.ofW (cc := cc) (maxL := nL) (ret := ret) hy hw ?_
  intro p e s m args below meth c s₁ B hml hv
  obtain ⟨rfl, hsz, hP, hK, hD0, hsx⟩ := hv
  subst hsz
  rw [lg_entry_eq]
  have hl := lv_entry av (n := nL) hn
  rw [hlv] at hl
  have hD : va_D (pA G s.heap.size) (pl cy G M) := pl_D hD0 (fun q hq => Or.inl hq)
  exact body p e s m _ below meth c (pA G s.heap.size) _ ⟨B.exec, B.bytes, hml, findClass_of_methodNamed B.named, atoms_spec (ws := ws) B.pre, B.returns, B.notSynchronized, hK, fun q h => Or.inr h, hG, hsx⟩ ⟨hP, hD, va_S.rf⟩ hl
end PoolMet
theorem st_0_0 : ∀ (P : Nat → Option Nat) (I : Nat → Int32) (v : Int32), pfs 0 P (upd I 0 v) = (pfs 0 P I).set 0 (.int v) := fun _ _ _ => rfl
theorem st_0_1 : ∀ (P : Nat → Option Nat) (I : Nat → Int32) (v : Int32), pfs 0 P (upd I 1 v) = (pfs 0 P I).set 1 (.int v) := fun _ _ _ => rfl
theorem st_0_2 : ∀ (P : Nat → Option Nat) (I : Nat → Int32) (v : Int32), pfs 0 P (upd I 2 v) = (pfs 0 P I).set 2 (.int v) := fun _ _ _ => rfl
theorem st_0_3 : ∀ (P : Nat → Option Nat) (I : Nat → Int32) (v : Int32), pfs 0 P (upd I 3 v) = (pfs 0 P I).set 3 (.int v) := fun _ _ _ => rfl
theorem st_0_4 : ∀ (P : Nat → Option Nat) (I : Nat → Int32) (v : Int32), pfs 0 P (upd I 4 v) = (pfs 0 P I).set 4 (.int v) := fun _ _ _ => rfl
theorem st_0_5 : ∀ (P : Nat → Option Nat) (I : Nat → Int32) (v : Int32), pfs 0 P (upd I 5 v) = (pfs 0 P I).set 5 (.int v) := fun _ _ _ => rfl
theorem st_0_6 : ∀ (P : Nat → Option Nat) (I : Nat → Int32) (v : Int32), pfs 0 P (upd I 6 v) = (pfs 0 P I).set 6 (.int v) := fun _ _ _ => rfl
theorem st_0_7 : ∀ (P : Nat → Option Nat) (I : Nat → Int32) (v : Int32), pfs 0 P (upd I 7 v) = (pfs 0 P I).set 7 (.int v) := fun _ _ _ => rfl
theorem st_1_5 : ∀ (P : Nat → Option Nat) (I : Nat → Int32) (v : Int32), pfs 1 P (upd I 5 v) = (pfs 1 P I).set 5 (.int v) := fun _ _ _ => rfl
theorem st_1_6 : ∀ (P : Nat → Option Nat) (I : Nat → Int32) (v : Int32), pfs 1 P (upd I 6 v) = (pfs 1 P I).set 6 (.int v) := fun _ _ _ => rfl
theorem st_1_7 : ∀ (P : Nat → Option Nat) (I : Nat → Int32) (v : Int32), pfs 1 P (upd I 7 v) = (pfs 1 P I).set 7 (.int v) := fun _ _ _ => rfl
theorem st_2_0 : ∀ (P : Nat → Option Nat) (I : Nat → Int32) (v : Int32), pfs 2 P (upd I 0 v) = (pfs 2 P I).set 0 (.int v) := fun _ _ _ => rfl
theorem st_2_3 : ∀ (P : Nat → Option Nat) (I : Nat → Int32) (v : Int32), pfs 2 P (upd I 3 v) = (pfs 2 P I).set 3 (.int v) := fun _ _ _ => rfl
theorem st_2_8 : ∀ (P : Nat → Option Nat) (I : Nat → Int32) (v : Int32), pfs 2 P (upd I 8 v) = (pfs 2 P I).set 8 (.int v) := fun _ _ _ => rfl
theorem st_3_1 : ∀ (P : Nat → Option Nat) (I : Nat → Int32) (v : Int32), pfs 3 P (upd I 1 v) = (pfs 3 P I).set 1 (.int v) := fun _ _ _ => rfl
theorem st_5_1 : ∀ (P : Nat → Option Nat) (I : Nat → Int32) (v : Int32), pfs 5 P (upd I 1 v) = (pfs 5 P I).set 1 (.int v) := fun _ _ _ => rfl
theorem st_6_5 : ∀ (P : Nat → Option Nat) (I : Nat → Int32) (v : Int32), pfs 6 P (upd I 5 v) = (pfs 6 P I).set 5 (.int v) := fun _ _ _ => rfl
theorem st_7_4 : ∀ (P : Nat → Option Nat) (I : Nat → Int32) (v : Int32), pfs 7 P (upd I 4 v) = (pfs 7 P I).set 4 (.int v) := fun _ _ _ => rfl
theorem st_7_5 : ∀ (P : Nat → Option Nat) (I : Nat → Int32) (v : Int32), pfs 7 P (upd I 5 v) = (pfs 7 P I).set 5 (.int v) := fun _ _ _ => rfl
theorem st_7_6 : ∀ (P : Nat → Option Nat) (I : Nat → Int32) (v : Int32), pfs 7 P (upd I 6 v) = (pfs 7 P I).set 6 (.int v) := fun _ _ _ => rfl
theorem st_7_7 : ∀ (P : Nat → Option Nat) (I : Nat → Int32) (v : Int32), pfs 7 P (upd I 7 v) = (pfs 7 P I).set 7 (.int v) := fun _ _ _ => rfl
theorem st_7_8 : ∀ (P : Nat → Option Nat) (I : Nat → Int32) (v : Int32), pfs 7 P (upd I 8 v) = (pfs 7 P I).set 8 (.int v) := fun _ _ _ => rfl
theorem st_8_6 : ∀ (P : Nat → Option Nat) (I : Nat → Int32) (v : Int32), pfs 8 P (upd I 6 v) = (pfs 8 P I).set 6 (.int v) := fun _ _ _ => rfl
theorem st_9_0 : ∀ (P : Nat → Option Nat) (I : Nat → Int32) (v : Int32), pfs 9 P (upd I 0 v) = (pfs 9 P I).set 0 (.int v) := fun _ _ _ => rfl
theorem st_9_1 : ∀ (P : Nat → Option Nat) (I : Nat → Int32) (v : Int32), pfs 9 P (upd I 1 v) = (pfs 9 P I).set 1 (.int v) := fun _ _ _ => rfl
theorem st_9_2 : ∀ (P : Nat → Option Nat) (I : Nat → Int32) (v : Int32), pfs 9 P (upd I 2 v) = (pfs 9 P I).set 2 (.int v) := fun _ _ _ => rfl
theorem st_9_3 : ∀ (P : Nat → Option Nat) (I : Nat → Int32) (v : Int32), pfs 9 P (upd I 3 v) = (pfs 9 P I).set 3 (.int v) := fun _ _ _ => rfl
theorem st_10_1 : ∀ (P : Nat → Option Nat) (I : Nat → Int32) (v : Int32), pfs 10 P (upd I 1 v) = (pfs 10 P I).set 1 (.int v) := fun _ _ _ => rfl
theorem st_10_2 : ∀ (P : Nat → Option Nat) (I : Nat → Int32) (v : Int32), pfs 10 P (upd I 2 v) = (pfs 10 P I).set 2 (.int v) := fun _ _ _ => rfl
theorem st_10_3 : ∀ (P : Nat → Option Nat) (I : Nat → Int32) (v : Int32), pfs 10 P (upd I 3 v) = (pfs 10 P I).set 3 (.int v) := fun _ _ _ => rfl
theorem st_11_1 : ∀ (P : Nat → Option Nat) (I : Nat → Int32) (v : Int32), pfs 11 P (upd I 1 v) = (pfs 11 P I).set 1 (.int v) := fun _ _ _ => rfl
theorem st_11_2 : ∀ (P : Nat → Option Nat) (I : Nat → Int32) (v : Int32), pfs 11 P (upd I 2 v) = (pfs 11 P I).set 2 (.int v) := fun _ _ _ => rfl
theorem st_11_3 : ∀ (P : Nat → Option Nat) (I : Nat → Int32) (v : Int32), pfs 11 P (upd I 3 v) = (pfs 11 P I).set 3 (.int v) := fun _ _ _ => rfl
theorem ln_0 (P : Nat → Option Nat) (I : Nat → Int32) {j : Nat} (h : j < 9) : j < (pfs 0 P I).length := h
theorem ln_1 (P : Nat → Option Nat) (I : Nat → Int32) {j : Nat} (h : j < 8) : j < (pfs 1 P I).length := h
theorem ln_2 (P : Nat → Option Nat) (I : Nat → Int32) {j : Nat} (h : j < 11) : j < (pfs 2 P I).length := h
theorem ln_3 (P : Nat → Option Nat) (I : Nat → Int32) {j : Nat} (h : j < 2) : j < (pfs 3 P I).length := h
theorem ln_4 (P : Nat → Option Nat) (I : Nat → Int32) {j : Nat} (h : j < 2) : j < (pfs 4 P I).length := h
theorem ln_5 (P : Nat → Option Nat) (I : Nat → Int32) {j : Nat} (h : j < 2) : j < (pfs 5 P I).length := h
theorem ln_6 (P : Nat → Option Nat) (I : Nat → Int32) {j : Nat} (h : j < 6) : j < (pfs 6 P I).length := h
theorem ln_7 (P : Nat → Option Nat) (I : Nat → Int32) {j : Nat} (h : j < 9) : j < (pfs 7 P I).length := h
theorem ln_8 (P : Nat → Option Nat) (I : Nat → Int32) {j : Nat} (h : j < 7) : j < (pfs 8 P I).length := h
theorem ln_9 (P : Nat → Option Nat) (I : Nat → Int32) {j : Nat} (h : j < 9) : j < (pfs 9 P I).length := h
theorem ln_10 (P : Nat → Option Nat) (I : Nat → Int32) {j : Nat} (h : j < 4) : j < (pfs 10 P I).length := h
theorem ln_11 (P : Nat → Option Nat) (I : Nat → Int32) {j : Nat} (h : j < 4) : j < (pfs 11 P I).length := h
