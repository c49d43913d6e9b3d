section XCB
variable {cl : List vw_C}
variable {p : Program} {l : Launch} {e : Env} {R : Room} {s : State} {m : MethodId} {args : Array Value} {below : List Frame} {meth : Method} {c : Code} {H : Heap} {locs : List Loc} {cells slots : Nat} {Q : State → Prop}
variable {E : Ev} {A : Nat → Prop} {b : ByteArray} {n : Nat} {r : Option FieldType} {own : String} {pc : Nat} {ls : Array Slot} {rest : List Value} {a : Nat} {ws : va_W} {sa : Nat → Nat} {strs : List (Nat × String)}
/-- the frame g, with q thrown over it -/
def tW (p : Program) (l : Launch) (e : Env) (R : Room) (s : State) (m : MethodId) (args : Array Value) (below : List Frame) (meth : Method) (c : Code) (H : Heap) (locs : List Loc) (cells slots : Nat) (Q : State → Prop) (g : JFrame) (q : Addr) : Prop :=
  ∀ T : State, T.heap = H → Stand p l e R s m args below meth c T locs cells slots → ∃ t, Steps p.tables e below ((T.setTop g).pushFrame (.throwing q)) t ∧ Q t
set_option maxHeartbeats 1000000 in
/-- a callee that returns or throws, run from the caller's place -/
theorem x_run {S : Type} {wd : S → va_W} {σ : S} {O : (S × Option Value) ⊕ String} {A' : Nat → Prop} {U : State} {y : MethodName} {b' : ByteArray} {n' f lo len : Nat} {r' : Option FieldType} {Pc : Array Value → State → Prop} {g : JFrame} {ig : Instr} {mk : MethodId} {av : Array Value}
    (X : Stand p l e R s m args below meth c U locs cells slots) (hM : MetFree l y (headSpec (mws y b' n' r') (rmx f lo)) Pc (fun _ _ _ _ _ => True) (fun _ st o t => xQ cl wd E A' σ O st o t)) (hg : g.method = m) (hsize : g.locals.size = c.maxLocals) (hdg : decode c.code g.pc = .ok (ig, len))
    (hcat : 2 * g.monitorRoom + (g.stack.map fun v => v.category).sum ≤ 8) (hn : U.methodNamed? y = some mk) (hws : ∀ w ∈ mws y b' n' r', w.before av U = true) (hin : (Cond.initialized y.cls).before av U = true) (hR : f + 1 ≤ R.frames ∧ 8 + (n' + 11) + lo ≤ R.locals) (hf : cells + 1 ≤ R.cells ∧ slots + 6 ≤ R.slots) (hPc : Pc av (U.calling g mk av)) :
    ∃ (o : Outcome) (t T' : State) (L : List Loc), Stand p l e R s m args below meth c T' (locs ++ L) (cells + 1) (slots + 6) ∧ T'.heap = t.heap ∧ T'.vm = t.vm ∧ xQ cl wd E A' σ O (U.calling g mk av) o t ∧ (∀ z ∈ L, A' z.base) ∧
      ((∃ v, o = .returned v ∧ Steps p.tables e below (doInvoke e (U.setTop g) [] mk av).1 (T'.setTop { g with pc := g.pc + len, stack := v.toList ++ g.stack })) ∨
       (∃ q, o = .threw q ∧ Steps p.tables e below (doInvoke e (U.setTop g) [] mk av).1 ((T'.setTop g).pushFrame (.throwing q)))) := by
  obtain ⟨methY, cY, hmY, hcY, -, hlY, -, -, -, -⟩ := Cond.code_spec hn (hws _ List.mem_cons_self)
  obtain ⟨kY, hkY, -⟩ := className_of_methodNamed hn
  have hinitY : kY.init = .initialized := Cond.initialized_spec (findClass_of_methodNamed hn) hkY hin
  have h : At U g.method c below := by rw [hg]; exact X.here
  have happ : (headSpec (mws y b' n' r') (rmx f lo)).appliesLoose y e.platform (U.calling g mk av) = true :=
    Spec.appliesLoose_calling (g := g) h hdg hn hkY hinitY
      (X.room_calling (g := g) (R' := (headSpec (mws y b' n' r') (rmx f lo)).room) hsize hmY hcY hR.1 (by have h2 := hR.2; rw [hlY]; show _ + lo ≤ _; omega) hf.1 hf.2) (atoms_intro hws)
  obtain ⟨mid, hmid⟩ := h.above
  have hfr : (U.setTop g).frames = (.java g :: mid) ++ below := by rw [State.frames_setTop' g h.top, hmid]; rfl
  obtain ⟨o, s₂, hsteps, -, hend, hq⟩ := Steps.callFree hM p X.admits X.cas X.clock (acts := []) hfr happ hPc trivial
  have hq' : xQ cl wd E A' σ O (U.calling g mk av) o s₂ := hq
  rw [State.frames_setTop' g h.top] at hend
  obtain ⟨g₀, hg0⟩ := Option.isSome_iff_exists.mp h.top
  obtain ⟨rr, hr⟩ := State.topJava?_eq_some.mp hg0
  have hr' : (({ U with heap := s₂.heap, slotsUsed := s₂.slotsUsed } : State).setVm s₂.vm).frames = .java g₀ :: rr := hr
  obtain ⟨-, -, -, L, ⟨hW₂, hsm⟩, hL⟩ := id hq'
  obtain ⟨e2, q2, q3, q4, q5, q6⟩ := id hsm
  have hW' : U.WarmedH s₂.vm := hW₂
  have e3 : s₂ = ({ (U.calling g mk av).setFrames s₂.frames with heap := s₂.heap, slotsUsed := s₂.slotsUsed } : State).setVm s₂.vm := by
    have e4 : s₂ = ({ s₂ with vm := (U.calling g mk av).vm } : State).setVm s₂.vm := rfl
    rw [e2] at e4
    exact e4
  have hsame : U.sameButNew ({ U with heap := s₂.heap, slotsUsed := s₂.slotsUsed } : State) L 1 6 := by
    refine ⟨?_, q2, q3, q4, q5, q6⟩
    obtain ⟨t, ht, -⟩ := State.frames_cons hr
    show ({ U with heap := s₂.heap, slotsUsed := s₂.slotsUsed } : State) = { U.setFrames U.frames with heap := s₂.heap, slotsUsed := s₂.slotsUsed }
    rw [State.setFrames_self ht]
  refine ⟨o, s₂, (({ U with heap := s₂.heap, slotsUsed := s₂.slotsUsed } : State).setVm s₂.vm), L,
    ⟨X.admits, X.cas, X.clock, X.frames, X.room, X.hears, X.method, X.code, (X.here.setHeapUsed s₂.heap s₂.slotsUsed).setVm hW'.alike, X.tail, State.WarmedH.trans X.warmed hW', X.limits, X.bytes, X.same.trans (hsame.setVm s.vm)⟩, rfl, rfl, hq', hL, ?_⟩
  cases o with
  | returned v =>
    refine Or.inl ⟨v, rfl, ?_⟩
    obtain ⟨c₂, i₂, len₂, hc₂, hd₂, hf₂⟩ := hend
    have hcc : c₂ = c := by
      have h1 : s₂.code? g.method = U.code? g.method := by
        rw [State.code?_eq, State.code?_eq, hW'.alike.method?]
      exact Option.some.inj (hc₂.symm.trans (h1.trans h.code))
    subst hcc
    have hlen : len₂ = len := by rw [hdg] at hd₂; cases hd₂; rfl
    subst hlen
    have hs₂ : s₂ = (({ U with heap := s₂.heap, slotsUsed := s₂.slotsUsed } : State).setVm s₂.vm).setTop { g with pc := g.pc + len₂, stack := v.toList ++ g.stack } := by
      refine e3.trans ?_
      rw [hf₂, State.calling_eq h.top, State.setFrames_setFrames, State.setTop_of_frames _ hr', hr]
      rfl
    rw [← hs₂]
    exact hsteps
  | threw q =>
    refine Or.inr ⟨q, rfl, ?_⟩
    have hf₂ : s₂.frames = .throwing q :: .java g :: U.frames.tail := hend
    have hs₂ : s₂ = ((({ U with heap := s₂.heap, slotsUsed := s₂.slotsUsed } : State).setVm s₂.vm).setTop g).pushFrame (.throwing q) := by
      refine e3.trans ?_
      rw [hf₂, State.calling_eq h.top, State.setFrames_setFrames, State.pushFrame, State.frames_setTop _ hr', State.setTop_of_frames _ hr', State.setFrames_setFrames, hr]
      rfl
    rw [← hs₂]
    exact hsteps
theorem x_pre {S : Type} {wd : S → va_W} {σ : S} {av : List Value} (hc : Cx cl E A p s m args meth c b n r own) (hth : thF sa strs A s s.heap) (w : Wd cl E A s.heap H locs (wd σ)) {U : State} (hU : U.heap = H) (hW : s.WarmedH U.vm) (g : JFrame) (mk : MethodId) : xP cl wd E sa strs av σ H.size av.toArray (U.calling g mk av.toArray) := by
  have hF := r_free w
  refine ⟨rfl, by show U.heap.size = _; rw [hU], by show va_P _ _ _ U.heap; rw [hU]; exact w.1, va_K.moved (U := U.calling g mk av.toArray) hW.alike hc.2.2.2.2.2.2.2.1, w.2.1.weaken (fun _ _ _ _ => trivial), ?_, ?_⟩
  · show eX E _ _ U.heap
    rw [hU]
    exact hc.2.2.2.2.2.2.2.2.at (U := U.calling g mk av.toArray) w.2.2.1.2.1 (fun q _ h => hF q h) hW.alike
  · show thF sa strs _ _ U.heap
    rw [hU]
    exact hth.at (U := U.calling g mk av.toArray) w.2.2.1.2.1 (fun q _ h => hF q h) hW
/-- behind a callee: the caller's world again -/
theorem x_back {S : Type} {wd : S → va_W} {σ σ' : S} {st0 t T' : State} {L : List Loc} (w : Wd cl E A s.heap H locs (wd σ)) (h0 : st0.heap = H) (e1 : T'.heap = t.heap) (hP : va_P E.1 cl (wd σ') t.heap) (hD : va_D (va_A (wd σ) H.size) (wd σ')) (hF : va_F (va_A (wd σ) H.size) st0 t) (hL : ∀ z ∈ L, va_A (wd σ) H.size z.base) : Wd cl E A s.heap T'.heap (locs ++ L) (wd σ') := by
  have hS := w.2.2.1
  have hF2 := r_free w
  obtain ⟨hz, hk⟩ := hF
  rw [h0] at hz hk
  refine ⟨by rw [e1]; exact hP, hD.weaken (fun _ _ _ h => hF2 _ h), ⟨Nat.le_trans hS.1 (by rw [e1]; exact hz), fun q h1 h2 => by rw [e1, hk q (Nat.lt_of_lt_of_le h1 hS.1) (fun z => h2 (hF2 q z))]; exact hS.2.1 q h1 h2, fun q hq => ?_⟩, w.2.2.2⟩
  rcases List.mem_append.mp hq with h | h
  · exact hS.2.2 q h
  · exact hF2 _ (hL q h)
set_option maxHeartbeats 1000000 in
/-- invokevirtual of a method that returns or throws -/
theorem x_cV {S : Type} {wd : S → va_W} {σ : S} {O : (S × Option Value) ⊕ String} {y : MethodName} {b' : ByteArray} {n' f lo ci index : Nat} {r' : Option FieldType} {As st : List Value} {fs : List Value} {T0 : u_T} {N : Nat} (hc : Cx cl E A p s m args meth c b n r own) (hth : thF sa strs A s s.heap) (w : Wd cl E A s.heap H locs (wd σ)) (hM : xC cl l E sa strs wd y b' n' r' (rmx f lo) (.ref a :: As) σ O) (kv : KV y b' n' r' As.length)
    (hl : Cond.methodLink own index y ∈ gt_bl) (q0 : Nat) (he : (wd σ)[q0]? = some (a, .inr (ci, fs))) (hcl : cl[ci]? = some (y.cls, T0, N)) (hR : f + 1 ≤ R.frames ∧ 8 + (n' + 11) + lo ≤ R.locals) (hsz : ls.size = n) (hst : st = As.reverse ++ .ref a :: rest) (hcat : (rest.map fun v => v.category).sum ≤ 8) (hf : cells + 1 ≤ R.cells ∧ slots + 6 ≤ R.slots)
    (hdg : decode b pc = .ok (.invokevirtual index, 3))
    (kx : ∀ (X : String) (q : Nat) (ce : Cell) (H1 : Heap) (locs1 : List Loc), O = .inr X → Wd cl E A s.heap H1 locs1 (wd σ) → H1[q]? = some ce → ce.vm = .none → s.vm.findClass X = some ce.cls → tW p l e R s m args below meth c H1 locs1 (cells + 1) (slots + 6) Q (F0 m pc ls rest) q)
    (kk : ∀ (Z : S × Option Value) (H1 : Heap) (locs1 : List Loc), O = .inl Z → Wd cl E A s.heap H1 locs1 (wd Z.1) → W p l e R s m args below meth c H1 locs1 (cells + 1) (slots + 6) Q (F0 m (pc + 3) ls (Z.2.toList ++ rest))) : W p l e R s m args below meth c H locs cells slots Q (F0 m pc ls st) := by
  subst hst
  intro T hT X
  have hTb := hc.2.2.2.2.2.2.1
  obtain ⟨kc, ki, ks, kin, kd1, kd2, kd3⟩ := kv
  obtain ⟨mk, methM, hnamed, hmethM, hstM, habM⟩ := Cond.instanceMethod_spec (hTb _ ki)
  obtain ⟨methM', cM, hmethM', -, -, -, -, -, -, hsigM⟩ := Cond.code_spec hnamed (hTb _ kc)
  cases hmethM.symm.trans hmethM'
  obtain ⟨cellB, hcB, hoB, hclB⟩ := va_recv hc.2.2.2.2.2.2.2.1 w.1 hcl he
  obtain ⟨c2, r2, m2, q1, q2, q3, q4, kP, hkP, hkPi⟩ := Cond.selects_spec (hTb _ ks)
  cases hclB.symm.trans q1
  cases (State.methodFound?_of_named hnamed ⟨kd1, kd2⟩).symm.trans q2
  cases hnamed.symm.trans q3
  have hselP : selectMethod e.platform s.vm cellB.cls mk = .method mk := by rw [Launch.admits_selectMethod X.admits]; exact q4
  have hlenA : As.length = methM.sig.parameters.length := by
    rw [hsigM] at kd3
    exact (Option.some.inj kd3).symm
  obtain ⟨vm₁, X₁, hstep₁⟩ := X.invokevirtual hc.1 hc.2.2.2.2.2.1 (hTb _ hl) hnamed hmethM hstM hkP hkPi ⟨kd1, kd2⟩ (a := a) (cell := cellB) (by rw [hT]; exact hcB)
    (fun z h => by rw [h] at hoB; cases hoB) hselP hmethM habM hkP hkPi (g := F0 m pc ls (As.reverse ++ .ref a :: rest)) rfl (argsL := As) (rest := rest) hlenA rfl (by rw [hc.2.1]; exact hdg)
  have hws : ∀ w ∈ mws y b' n' r', w.before (Value.ref a :: As).toArray (T.setVm vm₁) = true := by
    intro x hx
    rcases List.mem_cons.mp hx with rfl | h2
    · exact word_at X₁.warmed (gt_good kc) (hTb _ kc)
    · exact word_at X₁.warmed (gt_good h2) (hTb _ h2)
  obtain ⟨o, t, T', L, X', e1, e2, hq, hL, hr⟩ := x_run (g := F0 m pc ls rest) (ig := .invokevirtual index) (len := 3) (av := (Value.ref a :: As).toArray) X₁ (hM H.size) rfl (by rw [hc.2.2.1]; exact hsz) (by rw [hc.2.1]; exact hdg) (lv_room hcat) (X₁.named hnamed) hws (word_at X₁.warmed (gt_good kin) (hTb _ kin)) hR hf (x_pre hc hth w (U := T.setVm vm₁) hT X₁.warmed _ _)
  obtain ⟨hq1, hK1, hF1, -⟩ := hq
  cases O with
  | inl Z =>
    obtain ⟨h1, hP1, hD1⟩ := hq1
    rcases hr with ⟨v, hv, hs⟩ | ⟨q, hv, hs⟩
    · cases hv.symm.trans h1
      have w1 := x_back w (st0 := (T.setVm vm₁).calling (F0 m pc ls rest) mk (Value.ref a :: As).toArray) hT e1 hP1 hD1 hF1 hL
      obtain ⟨t2, a1, b1⟩ := kk Z T'.heap (locs ++ L) rfl w1 T' rfl X'
      exact ⟨t2, hstep₁ _ fun acts => by rw [doInvoke_state]; exact hs.trans a1, b1⟩
    · rw [h1] at hv; cases hv
  | inr Xc =>
    obtain ⟨q, ce, h1, hce, hcv, hcc, hP1, hD1⟩ := hq1
    rcases hr with ⟨v, hv, hs⟩ | ⟨q', hv, hs⟩
    · rw [h1] at hv; cases hv
    · cases hv.symm.trans h1
      have w1 := x_back w (st0 := (T.setVm vm₁).calling (F0 m pc ls rest) mk (Value.ref a :: As).toArray) hT e1 hP1 hD1 hF1 hL
      have hcc2 : s.vm.findClass Xc = some ce.cls := by
        have h9 : (T.setVm vm₁).vm.findClass Xc = some ce.cls := hcc
        rw [X₁.warmed.alike.findClass] at h9
        exact h9
      obtain ⟨t2, a1, b1⟩ := kx Xc q ce T'.heap (locs ++ L) rfl w1 (by rw [e1]; exact hce) hcv hcc2 T' rfl X'
      exact ⟨t2, hstep₁ _ fun acts => by rw [doInvoke_state]; exact hs.trans a1, b1⟩
set_option maxHeartbeats 1000000 in
/-- invokestatic of a method that returns or throws -/
theorem x_cS {S : Type} {wd : S → va_W} {σ : S} {O : (S × Option Value) ⊕ String} {y : MethodName} {b' : ByteArray} {n' f lo index : Nat} {r' : Option FieldType} {As st : List Value} (hc : Cx cl E A p s m args meth c b n r own) (hth : thF sa strs A s s.heap) (w : Wd cl E A s.heap H locs (wd σ)) (hM : xC cl l E sa strs wd y b' n' r' (rmx f lo) As σ O) (kv : KS y b' n' r' As.length)
    (hl : Cond.methodLink own index y ∈ gt_bl) (hR : f + 1 ≤ R.frames ∧ 8 + (n' + 11) + lo ≤ R.locals) (hsz : ls.size = n) (hst : st = As.reverse ++ rest) (hcat : (rest.map fun v => v.category).sum ≤ 8) (hf : cells + 1 ≤ R.cells ∧ slots + 6 ≤ R.slots)
    (hdg : decode b pc = .ok (.invokestatic index, 3))
    (kx : ∀ (X : String) (q : Nat) (ce : Cell) (H1 : Heap) (locs1 : List Loc), O = .inr X → Wd cl E A s.heap H1 locs1 (wd σ) → H1[q]? = some ce → ce.vm = .none → s.vm.findClass X = some ce.cls → tW p l e R s m args below meth c H1 locs1 (cells + 1) (slots + 6) Q (F0 m pc ls rest) q)
    (kk : ∀ (Z : S × Option Value) (H1 : Heap) (locs1 : List Loc), O = .inl Z → Wd cl E A s.heap H1 locs1 (wd Z.1) → W p l e R s m args below meth c H1 locs1 (cells + 1) (slots + 6) Q (F0 m (pc + 3) ls (Z.2.toList ++ rest))) : W p l e R s m args below meth c H locs cells slots Q (F0 m pc ls st) := by
  subst hst
  intro T hT X
  have hTb := hc.2.2.2.2.2.2.1
  obtain ⟨kc, ki, kin, kd1, kd2, kd3⟩ := kv
  obtain ⟨mk, hnamed⟩ := Cond.code_named (hTb _ kc)
  obtain ⟨methM, cM, hmethM, -, -, -, -, -, -, hsigM⟩ := Cond.code_spec hnamed (hTb _ kc)
  have hstatic : methM.isStatic = true := Cond.static_spec hnamed hmethM (hTb _ ki)
  obtain ⟨kP, hkP, -⟩ := className_of_methodNamed hnamed
  have hinitP : kP.init = .initialized := Cond.initialized_spec (findClass_of_methodNamed hnamed) hkP (hTb _ kin)
  have hlenA : As.length = methM.sig.parameters.length := by
    rw [hsigM] at kd3
    exact (Option.some.inj kd3).symm
  obtain ⟨vm₁, X₁, hstep₁⟩ := X.invokestatic hc.1 hc.2.2.2.2.2.1 (hTb _ hl) hnamed hmethM hstatic hkP hinitP ⟨kd1, kd2⟩ (g := F0 m pc ls (As.reverse ++ rest)) rfl (argsL := As) (rest := rest) hlenA rfl (by rw [hc.2.1]; exact hdg)
  have hws : ∀ w ∈ mws y b' n' r', w.before As.toArray (T.setVm vm₁) = true := by
    intro x hx
    rcases List.mem_cons.mp hx with rfl | h2
    · exact word_at X₁.warmed (gt_good kc) (hTb _ kc)
    · exact word_at X₁.warmed (gt_good h2) (hTb _ h2)
  obtain ⟨o, t, T', L, X', e1, e2, hq, hL, hr⟩ := x_run (g := F0 m pc ls rest) (ig := .invokestatic index) (len := 3) (av := As.toArray) X₁ (hM H.size) rfl (by rw [hc.2.2.1]; exact hsz) (by rw [hc.2.1]; exact hdg) (lv_room hcat) (X₁.named hnamed) hws (word_at X₁.warmed (gt_good kin) (hTb _ kin)) hR hf (x_pre hc hth w (U := T.setVm vm₁) hT X₁.warmed _ _)
  obtain ⟨hq1, hK1, hF1, -⟩ := hq
  cases O with
  | inl Z =>
    obtain ⟨h1, hP1, hD1⟩ := hq1
    rcases hr with ⟨v, hv, hs⟩ | ⟨q, hv, hs⟩
    · cases hv.symm.trans h1
      have w1 := x_back w (st0 := (T.setVm vm₁).calling (F0 m pc ls rest) mk As.toArray) hT e1 hP1 hD1 hF1 hL
      obtain ⟨t2, a1, b1⟩ := kk Z T'.heap (locs ++ L) rfl w1 T' rfl X'
      exact ⟨t2, hstep₁ _ fun acts => by rw [doInvoke_state]; exact hs.trans a1, b1⟩
    · rw [h1] at hv; cases hv
  | inr Xc =>
    obtain ⟨q, ce, h1, hce, hcv, hcc, hP1, hD1⟩ := hq1
    rcases hr with ⟨v, hv, hs⟩ | ⟨q', hv, hs⟩
    · rw [h1] at hv; cases hv
    · cases hv.symm.trans h1
      have w1 := x_back w (st0 := (T.setVm vm₁).calling (F0 m pc ls rest) mk As.toArray) hT e1 hP1 hD1 hF1 hL
      have hcc2 : s.vm.findClass Xc = some ce.cls := by
        have h9 : (T.setVm vm₁).vm.findClass Xc = some ce.cls := hcc
        rw [X₁.warmed.alike.findClass] at h9
        exact h9
      obtain ⟨t2, a1, b1⟩ := kx Xc q ce T'.heap (locs ++ L) rfl w1 (by rw [e1]; exact hce) hcv hcc2 T' rfl X'
      exact ⟨t2, hstep₁ _ fun acts => by rw [doInvoke_state]; exact hs.trans a1, b1⟩
/-- what the callee threw goes on to the caller -/
theorem x_prop {S : Type} {wd : S → va_W} {σ : S} {O : (S × Option Value) ⊕ String} {X : String} {q : Nat} {ce : Cell} (hO : O = .inr X) (hc : Cx cl E A p s m args meth c b n r own) (hne : c.exceptionTable.toList = []) (w : Wd cl E A s.heap H locs (wd σ)) (hce : H[q]? = some ce) (hcv : ce.vm = .none) (hcc : s.vm.findClass X = some ce.cls) (h1 : cells ≤ 1) (h6 : slots ≤ 6) :
    tW p l e R s m args below meth c H locs cells slots (xE cl below wd E A σ O s) (F0 m pc ls rest) q := by
  subst hO
  intro T hT X2
  obtain ⟨st1, hrun, hend, hW, hsm⟩ := X2.leaveThrown q (g := F0 m pc ls rest) rfl rfl rfl (by rw [hne]; exact fun x hx => nomatch hx) hc.2.2.2.2.1
  have hh : (T.setFrames (.throwing q :: below)).heap = H := hT
  exact ⟨_, st1, .threw q, hrun, hend, ⟨q, ce, rfl, by rw [hh]; exact hce, hcv, hcc, by rw [hh]; exact w.1, w.2.1⟩, va_K.moved hW.alike hc.2.2.2.2.2.2.2.1, w.2.2.1.F hh, locs, ⟨hW, hsm.mono h1 h6⟩, w.2.2.1.2.2⟩
/-- the returns of a method that might have thrown, at any count of cells -/
theorem x_mq {S : Type} {wd : S → va_W} {σ : S} {Z : S × Option Value} {O : (S × Option Value) ⊕ String} {g : JFrame} (hO : O = .inl Z) (h1 : cells ≤ 1) (h6 : slots ≤ 6) (k : W p l e R s m args below meth c H locs cells slots (MQ below (rQ cl wd E A Z) args s cells slots A) g) : W p l e R s m args below meth c H locs cells slots (xE cl below wd E A σ O s) g := by
  subst hO
  intro T hT X
  obtain ⟨t, a1, o, b1, b2, ⟨⟨g1, g2, g3, g4⟩, g5⟩, L, ⟨-, g6, g7⟩, g8⟩ := k T hT X
  exact ⟨t, a1, o, b1, b2, ⟨g1, g2, g4⟩, g3, g5, L, ⟨g6, g7.mono h1 h6⟩, g8⟩
theorem xt_i {S : Type} {wd : S → va_W} {σ σ' : S} {O : (S × Option Value) ⊕ String} {v : Int32} (hc : Cx cl E A p s m args meth c b n (some .int) own) (w : Wd cl E A s.heap H locs (wd σ')) (h1 : cells ≤ 1) (h6 : slots ≤ 6) (hdg : decode b pc = .ok (.ireturn, 1)) (hO : O = .inl (σ', some (.int v))) :
    W p l e R s m args below meth c H locs cells slots (xE cl below wd E A σ O s) (F0 m pc ls [.int v]) :=
  x_mq hO h1 h6 (W.iret hc.1 hc.2.1 hc.2.2.2.1 (fun t ht hW => ⟨⟨rfl, by rw [ht]; exact w.1, va_K.moved hW.alike hc.2.2.2.2.2.2.2.1, w.2.1⟩, w.2.2.1.F ht⟩) w.2.2.1.2.2 hdg hc.2.2.2.2.1)
theorem xt_l {S : Type} {wd : S → va_W} {σ σ' : S} {O : (S × Option Value) ⊕ String} {v : Int64} (hc : Cx cl E A p s m args meth c b n (some .long) own) (w : Wd cl E A s.heap H locs (wd σ')) (h1 : cells ≤ 1) (h6 : slots ≤ 6) (hdg : decode b pc = .ok (.lreturn, 1)) (hO : O = .inl (σ', some (.long v))) :
    W p l e R s m args below meth c H locs cells slots (xE cl below wd E A σ O s) (F0 m pc ls [.long v]) :=
  x_mq hO h1 h6 (W.lret hc.1 hc.2.1 hc.2.2.2.1 (fun t ht hW => ⟨⟨rfl, by rw [ht]; exact w.1, va_K.moved hW.alike hc.2.2.2.2.2.2.2.1, w.2.1⟩, w.2.2.1.F ht⟩) w.2.2.1.2.2 hdg hc.2.2.2.2.1)
theorem xt_v {S : Type} {wd : S → va_W} {σ σ' : S} {O : (S × Option Value) ⊕ String} (hc : Cx cl E A p s m args meth c b n none own) (w : Wd cl E A s.heap H locs (wd σ')) (h1 : cells ≤ 1) (h6 : slots ≤ 6) (hdg : decode b pc = .ok (.return_, 1)) (hO : O = .inl (σ', none)) :
    W p l e R s m args below meth c H locs cells slots (xE cl below wd E A σ O s) (F0 m pc ls []) :=
  x_mq hO h1 h6 (W.vret hc.1 hc.2.1 hc.2.2.2.1 (fun t ht hW => ⟨⟨rfl, by rw [ht]; exact w.1, va_K.moved hW.alike hc.2.2.2.2.2.2.2.1, w.2.1⟩, w.2.2.1.F ht⟩) w.2.2.1.2.2 hdg hc.2.2.2.2.1)
theorem xt_z {S : Type} {wd : S → va_W} {σ σ' : S} {O : (S × Option Value) ⊕ String} {v : Bool} {v' : Int32} (hc : Cx cl E A p s m args meth c b n (some .boolean) own) (w : Wd cl E A s.heap H locs (wd σ')) (h1 : cells ≤ 1) (h6 : slots ≤ 6) (hdg : decode b pc = .ok (.ireturn, 1)) (hv : v' = zb v) (hO : O = .inl (σ', some (.int (zb v)))) :
    W p l e R s m args below meth c H locs cells slots (xE cl below wd E A σ O s) (F0 m pc ls [.int v']) := by
  subst hv
  exact x_mq hO h1 h6 (W.zret hc.1 hc.2.1 hc.2.2.2.1 (zb_n v) (fun t ht hW => ⟨⟨rfl, by rw [ht]; exact w.1, va_K.moved hW.alike hc.2.2.2.2.2.2.2.1, w.2.1⟩, w.2.2.1.F ht⟩) w.2.2.1.2.2 hdg hc.2.2.2.2.1)
end XCB
