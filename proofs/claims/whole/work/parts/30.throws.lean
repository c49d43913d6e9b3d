/-! a method that throws: 'throw new E(text)' in the class PageMachine; the contract of a method that returns or throws -/
def lsP (C n d : String) (A : Nat → Prop) (U : State) (H : Heap) : Prop := ∃ (c : ClassId) (k : Class) (i : Nat) (f : Field) (a : Nat) (cell : Cell) (v : Value), U.vm.findClass C = some c ∧ U.fieldFound? C n d = some (c, k, i, f) ∧ f.isStatic = true ∧ k.statics = some a ∧ H[a]? = some cell ∧ cell.vm.isStatics = true ∧ cell.cls = c ∧ f.slot < cell.slots.size ∧ k.staticTypes[f.slot]? = some f.type ∧ cell.slots[f.slot]? = some v ∧ v.isRef = true ∧ ¬ A a
theorem lsP.at {C n d : String} {A A' : Nat → Prop} {s U : State} {H : Heap} (h : lsP C n d A s s.heap) (hk : ∀ q : Nat, q < s.heap.size → ¬ A q → H[q]? = s.heap[q]?) (hn : ∀ q, q < s.heap.size → A' q → A q) (hvm : s.vm.Alike U.vm) : lsP C n d A' U H := by
  obtain ⟨c, k, i, f, a, cell, v, h1, h2, h3, h4, h5, h6, h7, h8, h9, h10, h11, h12⟩ := h
  obtain ⟨k', hi', he⟩ := State.fieldFound?_setVm hvm h2
  have hlt := (Array.getElem?_eq_some_iff.mp h5).1
  exact ⟨c, k', i, f, a, cell, v, by rw [hvm.findClass]; exact h1, hi', h3, by rw [he]; exact h4, by rw [hk a hlt h12]; exact h5, h6, h7, h8, by rw [he]; exact h9, h10, h11, fun q => h12 (hn a hlt q)⟩
theorem lsP.lays {C n d : String} {A : Nat → Prop} {U : State} {args : Array Value} (h : lsP C n d A U U.heap) : (Cond.laysStatic C n d).before args U = true := by
  obtain ⟨c, k, i, f, a, cell, v, h1, h2, h3, h4, h5, h6, h7, h8, h9, h10, h11, h12⟩ := h
  simp [Cond.before, Cond.holds, Cond.value, h1, h2, h3, h4, h5, h6, h7, h8, h9]
theorem lsP.isr {C n d : String} {A : Nat → Prop} {U : State} {args : Array Value} (h : lsP C n d A U U.heap) : (Cond.isRef (.static C n d)).before args U = true := by
  obtain ⟨c, k, i, f, a, cell, v, h1, h2, h3, h4, h5, h6, h7, h8, h9, h10, h11, h12⟩ := h
  have hv : (Term.static C n d).eval args U none [] U = some v := by
    simp [Term.eval, State.fieldNamed?, h2, h3, h4, h5, h6, h10]
  cases v <;> simp_all [Cond.before, Cond.holds, Cond.value, Value.isRef]
theorem lsP.of {C n d : String} {A : Nat → Prop} {s : State} {args : Array Value} (hl : (Cond.laysStatic C n d).before args s = true) (hr : (Cond.isRef (.static C n d)).before args s = true) (hA : ∀ a : Nat, a < s.heap.size → ¬ A a) : lsP C n d A s s.heap := by
  obtain ⟨c, k, i, f, a, cell, hc, hi, hst, ha, hcell, hs, hcls, hlt, hty⟩ := Cond.laysStatic_spec hl
  cases hv : (Term.static C n d).eval args s none [] s with
  | none => simp [Cond.before, Cond.holds, Cond.value, hv] at hr
  | some v =>
    obtain ⟨hst', a', cell', ha', hcell', -, hslot⟩ := Term.static_spec hi hv
    cases ha.symm.trans ha'
    cases hcell.symm.trans hcell'
    refine ⟨c, k, i, f, a, cell, v, hc, hi, hst, ha, hcell, hs, hcls, hlt, hty, hslot, ?_, hA a (Array.getElem?_eq_some_iff.mp hcell).1⟩
    cases v <;> simp_all [Cond.before, Cond.holds, Cond.value, Value.isRef]
abbrev nIA : String := "java/lang/IllegalArgumentException"
abbrev nIO : String := "java/lang/IndexOutOfBoundsException"
abbrev thN : List String := ["java/lang/RuntimeException", "java/lang/Exception"]
theorem face_at {w : Cond} {args a' : Array Value} {s U : State} (hW : s.WarmedH U.vm) (hf : w.faceAtom = true) (h : w.before args s = true) : w.before a' U = true := by
  have h1 : w.before args (s.setVm U.vm) = true := Cond.before_shiftedFace (State.Shifted.of_warmed hW) w (by cases w <;> first | (exfalso; simp [Cond.faceAtom] at hf; done) | (show (_ || _) = true; rw [hf]; simp)) h
  cases w <;> first | exact h1 | simp [Cond.faceAtom] at hf
/-- what a throw needs of the state beside the words of all methods -/
def thF (sa : Nat → Nat) (strs : List (Nat × String)) (A : Nat → Prop) (U : State) (H : Heap) : Prop :=
  (∀ w ∈ lw_tbl, w.faceAtom = true → w.before #[] U = true) ∧ (lsP Bundle.tN "UNASSIGNED_STACK" Bundle.steD A U H ∧ lsP Bundle.tN "SUPPRESSED_SENTINEL" Bundle.listD A U H) ∧ (∀ q ∈ strs, vk_R "PageMachine" q.1 q.2 (sa q.1) U) ∧ va_Nc nIO nIA U
theorem thF.at {sa : Nat → Nat} {strs : List (Nat × String)} {A A' : Nat → Prop} {s U : State} {H : Heap} (h : thF sa strs A s s.heap) (hk : ∀ q : Nat, q < s.heap.size → ¬ A q → H[q]? = s.heap[q]?) (hn : ∀ q, q < s.heap.size → A' q → A q) (hW : s.WarmedH U.vm) : thF sa strs A' U H :=
  ⟨fun w hw hf => face_at hW hf (h.1 w hw hf), ⟨h.2.1.1.at hk hn hW.alike, h.2.1.2.at hk hn hW.alike⟩, fun q hq => (h.2.2.1 q hq).warm hW, h.2.2.2.moved hW.alike⟩
theorem th_IA : (Bundle.ownAtoms "PageMachine" 111 nIA thN).all (fun w => (goodWord w && decide (w ∈ lw_tbl)) || (w.faceAtom && decide (w ∈ lw_tbl)) || decide (w ∈ [Cond.laysStatic Bundle.tN "UNASSIGNED_STACK" Bundle.steD, Cond.laysStatic Bundle.tN "SUPPRESSED_SENTINEL" Bundle.listD, Cond.isRef (.static Bundle.tN "UNASSIGNED_STACK" Bundle.steD), Cond.isRef (.static Bundle.tN "SUPPRESSED_SENTINEL" Bundle.listD)])) = true := by decide +kernel
theorem th_IO : (Bundle.ownAtoms "PageMachine" 100 nIO thN).all (fun w => (goodWord w && decide (w ∈ lw_tbl)) || (w.faceAtom && decide (w ∈ lw_tbl)) || decide (w ∈ [Cond.laysStatic Bundle.tN "UNASSIGNED_STACK" Bundle.steD, Cond.laysStatic Bundle.tN "SUPPRESSED_SENTINEL" Bundle.listD, Cond.isRef (.static Bundle.tN "UNASSIGNED_STACK" Bundle.steD), Cond.isRef (.static Bundle.tN "SUPPRESSED_SENTINEL" Bundle.listD)])) = true := by decide +kernel
theorem th_words {sa : Nat → Nat} {strs : List (Nat × String)} {A : Nat → Prop} {s : State} {args : Array Value} {ic : Nat} {X : String} (hT : ∀ w ∈ gt_bl, w.before args s = true) (h : thF sa strs A s s.heap)
    (ho : (Bundle.ownAtoms "PageMachine" ic X thN).all (fun w => (goodWord w && decide (w ∈ lw_tbl)) || (w.faceAtom && decide (w ∈ lw_tbl)) || decide (w ∈ [Cond.laysStatic Bundle.tN "UNASSIGNED_STACK" Bundle.steD, Cond.laysStatic Bundle.tN "SUPPRESSED_SENTINEL" Bundle.listD, Cond.isRef (.static Bundle.tN "UNASSIGNED_STACK" Bundle.steD), Cond.isRef (.static Bundle.tN "SUPPRESSED_SENTINEL" Bundle.listD)])) = true) :
    ∀ w ∈ Bundle.ownAtoms "PageMachine" ic X thN, w.before args s = true := by
  intro w hw
  have h1 := List.all_eq_true.mp ho w hw
  rw [Bool.or_eq_true, Bool.or_eq_true, Bool.and_eq_true, Bool.and_eq_true, decide_eq_true_eq, decide_eq_true_eq] at h1
  rcases h1 with (⟨h1, h2⟩ | ⟨h1, h2⟩) | h1
  · exact hT w (gt_in h2 h1)
  · exact face_at (State.WarmedH.refl s) h1 (h.1 w h2 h1)
  · have h3 : w = Cond.laysStatic Bundle.tN "UNASSIGNED_STACK" Bundle.steD ∨ w = Cond.laysStatic Bundle.tN "SUPPRESSED_SENTINEL" Bundle.listD ∨ w = Cond.isRef (.static Bundle.tN "UNASSIGNED_STACK" Bundle.steD) ∨ w = Cond.isRef (.static Bundle.tN "SUPPRESSED_SENTINEL" Bundle.listD) := by simpa using h1
    rcases h3 with rfl | rfl | rfl | rfl
    · exact h.2.1.1.lays
    · exact h.2.1.2.lays
    · exact h.2.1.1.isr
    · exact h.2.1.2.isr
