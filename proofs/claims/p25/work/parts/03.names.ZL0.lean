/-! private methods of a class above: a call of theirs selects them -/
theorem sel_priv {C : String} {y z : MethodName} {s : State} {args : Array Value} (hyz : y.cls = z.cls) (hy : y.cls ≠ "java/lang/invoke/MethodHandle" ∧ y.cls ≠ "java/lang/invoke/VarHandle") (hz : (Cond.selects C z z).before args s = true) (hpriv : (Cond.privateMethod y).before args s = true) (hinst : (Cond.instanceMethod y).before args s = true) : (Cond.selects C y y).before args s = true := by
  obtain ⟨c2, r2, m2, q1, q2, q3, q4, kP, hkP, hkPi⟩ := Cond.selects_spec hz
  obtain ⟨mk, methM, hnamed, hmethM, -, -⟩ := Cond.instanceMethod_spec hinst
  have hfound : s.methodFound? y.cls y.name y.desc = some mk := State.methodFound?_of_named hnamed hy
  have h1 := findClass_of_methodNamed hnamed
  have h2 := findClass_of_methodNamed q3
  rw [← hyz, h1] at h2
  have hcls : mk.cls = m2.cls := Option.some.inj h2
  have hsel : selectMethod {} s.vm c2 mk = .method mk := selectMethod_private hmethM (Cond.privateMethod_at hpriv mk methM hnamed hmethM)
  simp only [Cond.before, Cond.holds, Cond.value, q1, hfound, hnamed, hsel, hcls, hkP]
  simp; exact hkPi
def lw_xs : List Cond := [.selects "java/lang/StringBuilder" ⟨"java/lang/AbstractStringBuilder", "appendNull", "()Ljava/lang/AbstractStringBuilder;"⟩ ⟨"java/lang/AbstractStringBuilder", "appendNull", "()Ljava/lang/AbstractStringBuilder;"⟩, .selects "java/lang/StringBuilder" ⟨"java/lang/AbstractStringBuilder", "ensureCapacityInternal", "(I)V"⟩ ⟨"java/lang/AbstractStringBuilder", "ensureCapacityInternal", "(I)V"⟩, .selects "java/lang/StringBuilder" ⟨"java/lang/AbstractStringBuilder", "newCapacity", "(I)I"⟩ ⟨"java/lang/AbstractStringBuilder", "newCapacity", "(I)I"⟩, .selects "java/lang/StringBuilder" ⟨"java/lang/AbstractStringBuilder", "putStringAt", "(ILjava/lang/String;)V"⟩ ⟨"java/lang/AbstractStringBuilder", "putStringAt", "(ILjava/lang/String;)V"⟩, .selects "java/lang/StringBuilder" ⟨"java/lang/AbstractStringBuilder", "inflateIfNeededFor", "(Ljava/lang/String;)V"⟩ ⟨"java/lang/AbstractStringBuilder", "inflateIfNeededFor", "(Ljava/lang/String;)V"⟩, .selects "java/lang/StringBuilder" ⟨"java/lang/AbstractStringBuilder", "inflate", "()V"⟩ ⟨"java/lang/AbstractStringBuilder", "inflate", "()V"⟩]
def lw_tbm : List Cond := lw_tbl ++ lw_xs
theorem tbm_l : ∀ w ∈ lw_tbl, w ∈ lw_tbm := fun _ h => List.mem_append_left _ h
set_option maxRecDepth 20000 in
theorem tbm_0 {args : Array Value} {s : State} (hts : ∀ w ∈ lw_tbl, w.before args s = true) : (Cond.selects "java/lang/StringBuilder" ⟨"java/lang/AbstractStringBuilder", "appendNull", "()Ljava/lang/AbstractStringBuilder;"⟩ ⟨"java/lang/AbstractStringBuilder", "appendNull", "()Ljava/lang/AbstractStringBuilder;"⟩).before args s = true := sel_priv (z := ⟨"java/lang/AbstractStringBuilder", "isLatin1", "()Z"⟩) rfl ⟨by decide +kernel, by decide +kernel⟩ (hts _ (List.mem_of_getElem? (i := 1176) rfl)) (hts _ (List.mem_of_getElem? (i := 1141) rfl)) (hts _ (List.mem_of_getElem? (i := 1142) rfl))
set_option maxRecDepth 20000 in
theorem tbm_1 {args : Array Value} {s : State} (hts : ∀ w ∈ lw_tbl, w.before args s = true) : (Cond.selects "java/lang/StringBuilder" ⟨"java/lang/AbstractStringBuilder", "ensureCapacityInternal", "(I)V"⟩ ⟨"java/lang/AbstractStringBuilder", "ensureCapacityInternal", "(I)V"⟩).before args s = true := sel_priv (z := ⟨"java/lang/AbstractStringBuilder", "isLatin1", "()Z"⟩) rfl ⟨by decide +kernel, by decide +kernel⟩ (hts _ (List.mem_of_getElem? (i := 1176) rfl)) (hts _ (List.mem_of_getElem? (i := 1145) rfl)) (hts _ (List.mem_of_getElem? (i := 1146) rfl))
set_option maxRecDepth 20000 in
theorem tbm_2 {args : Array Value} {s : State} (hts : ∀ w ∈ lw_tbl, w.before args s = true) : (Cond.selects "java/lang/StringBuilder" ⟨"java/lang/AbstractStringBuilder", "newCapacity", "(I)I"⟩ ⟨"java/lang/AbstractStringBuilder", "newCapacity", "(I)I"⟩).before args s = true := sel_priv (z := ⟨"java/lang/AbstractStringBuilder", "isLatin1", "()Z"⟩) rfl ⟨by decide +kernel, by decide +kernel⟩ (hts _ (List.mem_of_getElem? (i := 1176) rfl)) (hts _ (List.mem_of_getElem? (i := 1149) rfl)) (hts _ (List.mem_of_getElem? (i := 1150) rfl))
set_option maxRecDepth 20000 in
theorem tbm_3 {args : Array Value} {s : State} (hts : ∀ w ∈ lw_tbl, w.before args s = true) : (Cond.selects "java/lang/StringBuilder" ⟨"java/lang/AbstractStringBuilder", "putStringAt", "(ILjava/lang/String;)V"⟩ ⟨"java/lang/AbstractStringBuilder", "putStringAt", "(ILjava/lang/String;)V"⟩).before args s = true := sel_priv (z := ⟨"java/lang/AbstractStringBuilder", "isLatin1", "()Z"⟩) rfl ⟨by decide +kernel, by decide +kernel⟩ (hts _ (List.mem_of_getElem? (i := 1176) rfl)) (hts _ (List.mem_of_getElem? (i := 1196) rfl)) (hts _ (List.mem_of_getElem? (i := 1197) rfl))
set_option maxRecDepth 20000 in
theorem tbm_4 {args : Array Value} {s : State} (hts : ∀ w ∈ lw_tbl, w.before args s = true) : (Cond.selects "java/lang/StringBuilder" ⟨"java/lang/AbstractStringBuilder", "inflateIfNeededFor", "(Ljava/lang/String;)V"⟩ ⟨"java/lang/AbstractStringBuilder", "inflateIfNeededFor", "(Ljava/lang/String;)V"⟩).before args s = true := sel_priv (z := ⟨"java/lang/AbstractStringBuilder", "isLatin1", "()Z"⟩) rfl ⟨by decide +kernel, by decide +kernel⟩ (hts _ (List.mem_of_getElem? (i := 1176) rfl)) (hts _ (List.mem_of_getElem? (i := 1200) rfl)) (hts _ (List.mem_of_getElem? (i := 1201) rfl))
set_option maxRecDepth 20000 in
theorem tbm_5 {args : Array Value} {s : State} (hts : ∀ w ∈ lw_tbl, w.before args s = true) : (Cond.selects "java/lang/StringBuilder" ⟨"java/lang/AbstractStringBuilder", "inflate", "()V"⟩ ⟨"java/lang/AbstractStringBuilder", "inflate", "()V"⟩).before args s = true := sel_priv (z := ⟨"java/lang/AbstractStringBuilder", "isLatin1", "()Z"⟩) rfl ⟨by decide +kernel, by decide +kernel⟩ (hts _ (List.mem_of_getElem? (i := 1176) rfl)) (hts _ (List.mem_of_getElem? (i := 1205) rfl)) (hts _ (List.mem_of_getElem? (i := 1206) rfl))
theorem tbm_hts {args : Array Value} {s : State} (hts : ∀ w ∈ lw_tbl, w.before args s = true) : ∀ w ∈ lw_tbm, w.before args s = true := by
  intro w hw
  rcases List.mem_append.mp hw with h | h
  · exact hts w h
  · simp only [lw_xs, List.mem_cons, List.not_mem_nil, or_false] at h
    rcases h with rfl | rfl | rfl | rfl | rfl | rfl
    · exact tbm_0 hts
    · exact tbm_1 hts
    · exact tbm_2 hts
    · exact tbm_3 hts
    · exact tbm_4 hts
    · exact tbm_5 hts
