section XB
variable (cl : List vw_C)
abbrev rmx (f lo : Nat) : Room := { frames := f, cells := 1, slots := 6, locals := lo }
/-- where a method ends that returns (.inl) or throws (.inr: the class of what is thrown; the world is as it was) -/
def xQ {S : Type} (wd : S → va_W) (E : Ev) (A : Nat → Prop) (σ : S) (O : (S × Option Value) ⊕ String) (st : State) (o : Outcome) (t : State) : Prop :=
  (match O with
    | .inl Z => o = .returned Z.2 ∧ va_P E.1 cl (wd Z.1) t.heap ∧ va_D A (wd Z.1)
    | .inr X => ∃ (q : Nat) (ce : Cell), o = .threw q ∧ t.heap[q]? = some ce ∧ ce.vm = .none ∧ st.vm.findClass X = some ce.cls ∧ va_P E.1 cl (wd σ) t.heap ∧ va_D A (wd σ)) ∧
  va_K E.1 cl (eT E) t ∧ va_F A st t ∧ ∃ L : List Loc, (st.WarmedH t.vm ∧ st.sameButNew ({ t with vm := st.vm } : State) L 1 6) ∧ ∀ z ∈ L, A z.base
def xE {S : Type} (below : List Frame) (wd : S → va_W) (E : Ev) (A : Nat → Prop) (σ : S) (O : (S × Option Value) ⊕ String) (s : State) : State → Prop := fun t => ∃ o, t.status = .running ∧ Ended t below o ∧ xQ cl wd E A σ O s o t
def xP {S : Type} (wd : S → va_W) (E : Ev) (sa : Nat → Nat) (strs : List (Nat × String)) (av : List Value) (σ : S) (sz : Nat) : Array Value → State → Prop := va_Pc av (fun U => U.heap.size = sz ∧ va_P E.1 cl (wd σ) U.heap ∧ va_K E.1 cl (eT E) U ∧ va_D (fun _ => True) (wd σ) ∧ eX E (va_A (wd σ) sz) U U.heap ∧ thF sa strs (va_A (wd σ) sz) U U.heap)
def xC {S : Type} (l : Launch) (E : Ev) (sa : Nat → Nat) (strs : List (Nat × String)) (wd : S → va_W) (y : MethodName) (b : ByteArray) (n : Nat) (r : Option FieldType) (rm : Room) (av : List Value) (σ : S) (O : (S × Option Value) ⊕ String) : Prop :=
  ∀ sz : Nat, MetFree l y (headSpec (mws y b n r) rm) (xP cl wd E sa strs av σ sz) (fun _ _ _ _ _ => True) (fun _ st o t => xQ cl wd E (va_A (wd σ) sz) σ O st o t)
variable {cl}
theorem xC.of {S : Type} {l : Launch} {E : Ev} {sa : Nat → Nat} {strs : List (Nat × String)} {wd : S → va_W} {y : MethodName} {b : ByteArray} {n : Nat} {r : Option FieldType} {f lo : Nat} {av : List Value} {σ : S} {O : (S × Option Value) ⊕ String} (hy : plainName y.cls = true) (hav : (lg_sl av).length ≤ n)
    (body : ∀ (p : Program) (e : Env) (s : State) (m : MethodId) (below : List Frame) (meth : Method) (c : Code) (A : Nat → Prop) (ls : Array Slot), Cx cl E A p s m av.toArray meth c b n r y.cls → c.exceptionTable.toList = [] → thF sa strs A s s.heap → Wd cl E A s.heap s.heap [] (wd σ) → lv_has ls n (lv_args 0 av) →
      W p l e (rmx f lo) s m av.toArray below meth c s.heap [] 0 0 (xE cl below wd E A σ O s) (F0 m 0 ls [])) : xC cl l E sa strs wd y b n r (rmx f lo) av σ O := by
  intro sz
  refine MetFree.of_bodyS (code := b) (maxLocals := n) (ret := r) hy ?_ ?_
  · intro args s m h hn
    obtain ⟨meth, c, h1, h2, h3, h4, h5, h6, -, -⟩ := Cond.code_spec hn (atoms_spec (ws := mws y b n r) h _ List.mem_cons_self)
    exact ⟨meth, c, h1, h2, h3, h4, h5, h6⟩
  · intro p e s m args below meth c s₁ B hml hv _
    obtain ⟨rfl, hsz, hP, hK, hD0, hX, hth⟩ := hv
    have hts := atoms_spec (ws := mws y b n r) B.pre
    have hne := B.noHandlers (hts _ List.mem_cons_self)
    have hne2 : c.exceptionTable.toList = [] := by
      have : c.exceptionTable = #[] := by simpa [Array.isEmpty_iff] using hne
      rw [this]
    subst hsz
    have hh0 : s₁.heap = s.heap := by rw [B.state]; rfl
    have hl := lv_entry av (n := n) hav
    have K : W p l e (rmx f lo) s m av.toArray below meth c s.heap [] 0 0 (xE cl below wd E (va_A (wd σ) s.heap.size) σ O s) (entryFrame m av.toArray n) := by
      rw [lg_entry_eq]
      generalize (lg_sl av ++ List.replicate (n - (lg_sl av).length) Slot.unset).toArray = ls at hl ⊢
      exact body p e s m below meth c (va_A (wd σ) s.heap.size) ls ⟨B.exec, B.bytes, hml, B.returns, B.notSynchronized, findClass_of_methodNamed B.named, fun w h => hts w (List.mem_cons_of_mem _ h), hK, hX⟩ hne2 hth ⟨hP, hD0.self, va_S.rf, fun q h => Or.inr h⟩ hl
    obtain ⟨t, a1, o, b1, b2, b3⟩ := K s₁ hh0 (Stand.of_body B)
    exact ⟨t, o, a1, b1, b2, b3⟩
variable {p : Program} {l : Launch} {e : Env} {R : Room} {s : State} {m : MethodId} {args : Array Value} {below : List Frame} {meth : Method} {c : Code} {H : Heap} {locs : List Loc} {cells slots : Nat} {Q : State → Prop}
variable {E : Ev} {A : Nat → Prop} {b : ByteArray} {n : Nat} {r : Option FieldType} {own : String} {pc : Nat} {ls : Array Slot} {rest : List Value} {a : Nat} {ws : va_W} {sa : Nat → Nat} {strs : List (Nat × String)}
/-- the ends that return -/
theorem x_ret {S : Type} {wd : S → va_W} {σ : S} {Z : S × Option Value} {O : (S × Option Value) ⊕ String} {g : JFrame} (hO : O = .inl Z) (k : W p l e R s m args below meth c H locs 0 0 (MQ below (rQ cl wd E A Z) args s 0 0 A) g) : W p l e R s m args below meth c H locs 0 0 (xE cl below wd E A σ O s) g := by
  subst hO
  intro T hT X
  obtain ⟨t, a1, o, b1, b2, ⟨⟨h1, h2, h3, h4⟩, h5⟩, L, ⟨-, h6, h7⟩, h8⟩ := k T hT X
  exact ⟨t, a1, o, b1, b2, ⟨h1, h2, h4⟩, h3, h5, L, ⟨h6, h7.mono (Nat.zero_le _) (Nat.zero_le _)⟩, h8⟩
theorem same_old {U : State} {k n : Nat} (h : s.sameButNew ({ U with vm := s.vm } : State) [] k n) : s.heap.size ≤ U.heap.size ∧ ∀ q : Nat, q < s.heap.size → U.heap[q]? = s.heap[q]? := by
  obtain ⟨-, h2, -, -, -, h6⟩ := h
  refine ⟨h2, fun q hq => ?_⟩
  obtain ⟨c', e1, e2, -, e4⟩ := h6 q _ (Array.getElem?_eq_getElem hq)
  have e5 : U.heap[q]? = some c' := e1
  have hs : c'.slots = (s.heap[q]).slots := Array.ext_getElem? fun i => e4 i List.not_mem_nil
  rw [hs] at e2
  rw [e5, Array.getElem?_eq_getElem hq]
  exact congrArg some e2
set_option maxHeartbeats 1000000 in
/-- throw new X(text): nothing was written before -/
theorem x_throw {S : Type} {wd : S → va_W} {σ : S} {O : (S × Option Value) ⊕ String} {X : String} {ik is ic : Nat} {tx : String} (hO : O = .inr X) (hc : Cx cl E A p s m args meth c b n r "PageMachine") (hfl : l.flags = flags0) (hne : c.exceptionTable.toList = []) (hth : thF sa strs A s s.heap) (w : Wd cl E A s.heap s.heap [] (wd σ)) (hsz : ls.size = n)
    (hX : Bundle.fit X = true) (ho : (Bundle.ownAtoms "PageMachine" ic X thN).all (fun w => (goodWord w && decide (w ∈ lw_tbl)) || (w.faceAtom && decide (w ∈ lw_tbl)) || decide (w ∈ [Cond.laysStatic Bundle.tN "UNASSIGNED_STACK" Bundle.steD, Cond.laysStatic Bundle.tN "SUPPRESSED_SENTINEL" Bundle.listD, Cond.isRef (.static Bundle.tN "UNASSIGNED_STACK" Bundle.steD), Cond.isRef (.static Bundle.tN "SUPPRESSED_SENTINEL" Bundle.listD)])) = true)
    (hcl : Cond.classLink "PageMachine" ik X ∈ gt_bl) (hins : Cond.instantiable X 6 ∈ gt_bl) (hini : Cond.initialized X ∈ gt_bl) (hst : (is, tx) ∈ strs) (hRc : 1 ≤ R.cells ∧ 6 ≤ R.slots) (hRf : 6 ≤ R.frames) (hRl : 82 ≤ R.locals)
    (d0 : decode b pc = .ok (.new ik, 3)) (d3 : decode b (pc + 3) = .ok (.dup, 1)) (d4 : decode b (pc + 3 + 1) = .ok (.ldc is, 2)) (d6 : decode b (pc + 3 + 1 + 2) = .ok (.invokespecial ic, 3)) (d9 : decode b (pc + 3 + 1 + 2 + 3) = .ok (.athrow, 1)) :
    W p l e R s m args below meth c s.heap [] 0 0 (xE cl below wd E A σ O s) (F0 m pc ls []) := by
  subst hO
  have hT := hc.2.2.2.2.2.2.1
  refine W.newc hc.1 hc.2.1 hc.2.2.2.2.2.1 (hT _ hcl) (hT _ hins) (hT _ hini) rfl d0 (by omega) (by omega) (fun cC kC h1 h2 h3 h4 => ?_)
  refine lv_dup hc.1 hc.2.1 d3 rfl ?_
  refine va_ldcS hc.1 hc.2.1 hc.2.2.2.2.2.1 (hth.2.2.1 _ hst) d4 ?_
  intro T hT2 X2
  have htr : e.platform.stackTraces = false := Launch.traces_off hfl X2.admits
  obtain ⟨U, hst2, hrun, hend, hW, hsame, ce, hce, hOw⟩ := X2.ctorThrowS hc.1 htr (own := "PageMachine") (cls := X) (names := thN) (ic := ic) hc.2.2.2.2.2.1 hX (by decide) (th_words hT hth ho) (fun x hx => nomatch hx) (a := s.heap.size) h1 h2 (by rw [hT2]; exact Array.getElem?_push_size) (Nat.le_refl _) (msg := .ref (sa is)) rfl
    (g := F0 m (pc + 3 + 1 + 2) ls [.ref (sa is), .ref s.heap.size, .ref s.heap.size]) rfl (by rw [hc.2.2.1]; exact hsz) rfl rfl (rest := []) rfl (by rw [hc.2.1]; exact d6) (by rw [hc.2.1]; exact d9) (by rw [hne]; exact fun x hx => nomatch hx) (by show 2 + 3 < R.frames; omega) (by show 2 * 0 + 1 + (13 * (2 + 1) + 42) ≤ R.locals; omega) hc.2.2.2.2.1
  obtain ⟨hz, hold⟩ := same_old hsame
  have hsame2 : s.sameButNew ({ U with vm := s.vm } : State) [] 1 6 := hsame.mono (by omega) (by rw [Nat.zero_add]; exact Nat.le_refl _)
  refine ⟨U, hst2, .threw s.heap.size, hrun, hend, ⟨s.heap.size, ce, rfl, hce, hOw.vm, hOw.cls, ?_, w.2.1⟩, va_K.moved hW.alike hc.2.2.2.2.2.2.2.1, ⟨hz, fun q h1 _ => hold q h1⟩, [], ⟨hW, hsame2⟩, fun z hz => nomatch hz⟩
  exact w.1.kept (fun k q hk => hold q.1 (w.1 k q hk).lt)
end XB
