section XCA
/-- a row of the table over the place, its class linked: it takes the object, or the search goes on; the tables note the link -/
theorem go_row {Q : Handler → Pre} {E : CtlPost} {e : Env} {d : Bool} {acts : List Action} {S : State} {f : JFrame} {a : Addr} {x : ExceptionTableEntry} {t : List ExceptionTableEntry} {k : ClassId} {cell : Cell} (hx : covers x f.pc = true) (h0 : x.catchType ≠ 0)
    (hl : S.vm.ClassLinks e.platform f.method.cls x.catchType k) (hcell : S.heap[a]? = some cell) (hobj : ∀ j, cell.vm ≠ .statics j) (hk1 : ∃ z, S.vm.classes[cell.cls]? = some z) (hk2 : ∃ z, S.vm.classes[k]? = some z) :
    wp (findHandler.go f a (x :: t)) Q E e d acts S ↔ (if S.vm.assignable cell.cls k = true then Q (.found x.handlerPc) d acts (S.setVm (S.vm.noted f.method.cls x.catchType (.cls k))) else wp (findHandler.go f a t) Q E e d acts (S.setVm (S.vm.noted f.method.cls x.catchType (.cls k)))) := by
  simp only [covers] at hx
  obtain ⟨ha, ht⟩ := (resolveClass_links e.toSetting hl).op (op := VmOp.resolveClass f.method.cls x.catchType) rfl
  have hal : S.vm.Alike (S.vm.noted f.method.cls x.catchType (.cls k)) := (Vm.Alike.refl S.vm).noted _ _ _
  obtain ⟨z1, hz1⟩ := hk1
  obtain ⟨z2, hz2⟩ := hk2
  obtain ⟨y1, hy1, -⟩ := hal.2.2 _ _ hz1
  obtain ⟨y2, hy2, -⟩ := hal.2.2 _ _ hz2
  have hfit : (S.vm.noted f.method.cls x.catchType (.cls k)).assignable cell.cls k = S.vm.assignable cell.cls k := hal.assignable ..
  cases hq : S.vm.assignable cell.cls k <;> rw [hq] at hfit <;> simp [findHandler.go, hx, h0, ha, ht, hcell, hobj, hy1, hy2, hfit, VmOp.dirties, VmOp.acts]
theorem setF2 (u : State) (vm' : Vm) (F G : List Frame) : ((u.setFrames F).setVm vm').setFrames G = (u.setVm vm').setFrames G := by
  have h1 : (u.setFrames F).setVm vm' = (u.setVm vm').setFrames F := rfl
  rw [h1, State.setFrames_setFrames]
/-- the search ends at a handler: the method goes on there -/
theorem go_there {tb : Tables} {e : Env} {s target : State} {g : JFrame} {c : Code} {below : List Frame} {a : Addr} (h : At s g.method c below) {pc : Nat} {vm' : Vm}
    (hfind : ∀ (Q : Handler → Pre) (E : CtlPost) (d : Bool) (acts : List Action), wp (findHandler g a) Q E e d acts ((s.setTop g).pushFrame (.throwing a)) ↔ Q (.found pc) d acts (((s.setTop g).pushFrame (.throwing a)).setVm vm'))
    (hrest : Steps tb e below ((s.setVm vm').setTop { g with pc := pc, stack := [.ref a] }) target) : Steps tb e below ((s.setTop g).pushFrame (.throwing a)) target := by
  obtain ⟨hgo, hw⟩ := h.throwing a
  refine Steps.head hgo hw ?_
  obtain ⟨g₀, hg⟩ := Option.isSome_iff_exists.mp h.top
  obtain ⟨r, hr⟩ := State.topJava?_eq_some.mp hg
  have hr' : (s.setVm vm').frames = .java g₀ :: r := hr
  have key : (stepThrowing e ((s.setTop g).pushFrame (.throwing a)) a (.java g :: s.frames.tail)).Is ((((s.setTop g).pushFrame (.throwing a)).setVm vm').setFrames (.java { g with pc := pc, stack := [.ref a] } :: s.frames.tail)) [] := by
    simp only [stepThrowing, searchFrame, vmDo]
    generalize hr2 : Sem.go _ e false [] ((s.setTop g).pushFrame (.throwing a)) = res
    obtain ⟨as, rfl, ha⟩ := Sem.eq_ok_of hr2 (a := Handler.found pc) (s' := ((s.setTop g).pushFrame (.throwing a)).setVm vm') (acts' := []) (by simp [hfind _ _ _ _])
    exact ⟨rfl, ha⟩
  rw [stepThread_throwing (frames_entered h.top _), key.1]
  rw [State.setTop_of_frames _ hr'] at hrest
  rw [hr, List.tail_cons, State.pushFrame, setF2, State.setTop_of_frames _ hr, setF2]
  exact hrest
variable {cl : List vw_C} {p : Program} {l : Launch} {e : Env} {R : Room} {s : State} {m : MethodId} {args : Array Value} {below : List Frame} {meth : Method} {c : Code} {H : Heap} {locs : List Loc} {cells slots : Nat} {Q : State → Prop}
variable {E : Ev} {A : Nat → Prop} {b : ByteArray} {n : Nat} {r : Option FieldType} {own : String} {pc : Nat} {ls : Array Slot} {rest : List Value} {a : Nat}
/-- the words on a catch clause -/
theorem ct_link {X nm : String} {ct : Nat} {ce : Cell} (hc : Cx cl E A p s m args meth c b n r own) {T : State} (X2 : Stand p l e R s m args below meth c T locs cells slots) (hl : Cond.classLink own ct nm ∈ gt_bl) (hcc : s.vm.findClass X = some ce.cls) : ∃ k, s.vm.findClass nm = some k ∧ s.vm.ClassLinks e.platform m.cls ct k ∧ (∃ z, s.vm.classes[k]? = some z) ∧ ∀ vm, s.WarmedH vm → s.WarmedH (vm.noted m.cls ct (.cls k)) := by
  have hpl : e.platform.magicAccessors = ({} : Platform).magicAccessors := by rw [X2.admits.platform]
  obtain ⟨k, hk, hcl⟩ := Cond.classLink_spec hc.2.2.2.2.2.1 (hc.2.2.2.2.2.2.1 _ hl) e.platform hpl
  obtain ⟨dk, _, _, kt, hd, _, _, _, _, hkt, _, hopen⟩ := hcl.here
  exact ⟨k, hk, hcl, ⟨kt, hkt⟩, fun vm hW => hW.noted hd hopen (State.rightAt_cls hcl)⟩
/-- the first clause takes it -/
theorem x_catch1 {X nm : String} {q s0 e0 h0 ct : Nat} {ce : Cell} {tl : List (Nat × Nat × Nat × Nat)} (hc : Cx cl E A p s m args meth c b n r own) (hmap : c.exceptionTable.toList.map (fun h => (h.startPc, h.endPc, h.handlerPc, h.catchType)) = (s0, e0, h0, ct) :: tl) (hcov : s0 ≤ pc ∧ pc < e0) (hct : ct ≠ 0) (hl : Cond.classLink own ct nm ∈ gt_bl) (hca : (Cond.castable X nm).before args s = true)
    (hce : H[q]? = some ce) (hcv : ce.vm = .none) (hcc : s.vm.findClass X = some ce.cls) (kk : W p l e R s m args below meth c H locs cells slots Q (F0 m h0 ls [.ref q])) : tW p l e R s m args below meth c H locs cells slots Q (F0 m pc ls rest) q := by
  intro T hT X2
  obtain ⟨k, hk, hcl, ⟨z, hz⟩, hno⟩ := ct_link hc X2 hl hcc
  obtain ⟨c3, c4, hc3, hc4, hasg⟩ := Cond.castable_spec hca
  cases Option.some.inj (hc3.symm.trans hcc)
  cases Option.some.inj (hc4.symm.trans hk)
  cases ht : c.exceptionTable.toList with
  | nil => rw [ht] at hmap; cases hmap
  | cons x t =>
    rw [ht] at hmap
    injection hmap with hx1 hx2
    injection hx1 with y1 y2
    injection y2 with y2 y3
    injection y3 with y3 y4
    have hcx : covers x pc = true := by simp only [covers, y1, y2]; simp [hcov]
    have hW := X2.warmed
    have hal := hW.alike
    obtain ⟨kk1, hkk1, -⟩ := hal.2.2 _ _ hz
    have hfit : T.vm.assignable ce.cls k = true := by rw [hal.assignable]; exact hasg
    have hk9 : ∃ z, T.vm.classes[ce.cls]? = some z := by
      obtain ⟨z9, h9, -⟩ := Vm.findClass_spec hcc
      obtain ⟨z8, h8, -⟩ := hal.2.2 _ _ h9
      exact ⟨z8, h8⟩
    obtain ⟨t2, a1, b1⟩ := kk (T.setVm (T.vm.noted m.cls x.catchType (.cls k))) hT (X2.noted (by rw [y4]; exact hno _ hW))
    refine ⟨t2, go_there (g := F0 m pc ls rest) (pc := x.handlerPc) (vm' := T.vm.noted m.cls x.catchType (.cls k)) X2.here (fun Q E d acts => ?_) (by rw [y3]; exact a1), b1⟩
    refine (W.findHandler_eq (s := (T.setTop (F0 m pc ls rest)).pushFrame (.throwing q)) (f := F0 m pc ls rest) (meth := meth) (code := c) X2.method' X2.code).trans ?_
    rw [ht]
    refine (go_row (S := (T.setTop (F0 m pc ls rest)).pushFrame (.throwing q)) (f := F0 m pc ls rest) (x := x) (k := k) (cell := ce) hcx (by rw [y4]; exact hct) (by rw [y4]; exact hW.classLinks hcl) (by show T.heap[q]? = _; rw [hT]; exact hce) (fun j => by rw [hcv]; exact fun h => by cases h) hk9 ⟨kk1, hkk1⟩).trans ?_
    rw [if_pos (show ((T.setTop (F0 m pc ls rest)).pushFrame (.throwing q)).vm.assignable ce.cls k = true from hfit)]
    exact Iff.rfl
/-- the first clause doesn't take it, the second does -/
theorem x_catch2 {X nm nm2 : String} {q s0 e0 h0 ct s2 e2 h2 ct2 : Nat} {ce : Cell} {tl : List (Nat × Nat × Nat × Nat)} (hc : Cx cl E A p s m args meth c b n r own) (hmap : c.exceptionTable.toList.map (fun h => (h.startPc, h.endPc, h.handlerPc, h.catchType)) = (s0, e0, h0, ct) :: (s2, e2, h2, ct2) :: tl) (hcov : s0 ≤ pc ∧ pc < e0) (hct : ct ≠ 0) (hl : Cond.classLink own ct nm ∈ gt_bl) (hnc : va_Nc X nm s)
    (hcov2 : s2 ≤ pc ∧ pc < e2) (hct2 : ct2 ≠ 0) (hl2 : Cond.classLink own ct2 nm2 ∈ gt_bl) (hca : (Cond.castable X nm2).before args s = true)
    (hce : H[q]? = some ce) (hcv : ce.vm = .none) (hcc : s.vm.findClass X = some ce.cls) (kk : W p l e R s m args below meth c H locs cells slots Q (F0 m h2 ls [.ref q])) : tW p l e R s m args below meth c H locs cells slots Q (F0 m pc ls rest) q := by
  intro T hT X2
  obtain ⟨k, hk, hcl, ⟨z, hz⟩, hno⟩ := ct_link hc X2 hl hcc
  obtain ⟨k2, hk2, hcl2, ⟨z2, hz2⟩, hno2⟩ := ct_link hc X2 hl2 hcc
  obtain ⟨c3, c4, hc3, hc4, hasg⟩ := Cond.castable_spec hca
  cases Option.some.inj (hc3.symm.trans hcc)
  cases Option.some.inj (hc4.symm.trans hk2)
  obtain ⟨n1, n2, hn1, hn2, hn3⟩ := hnc
  cases Option.some.inj (hn1.symm.trans hcc)
  cases Option.some.inj (hn2.symm.trans hk)
  cases ht : c.exceptionTable.toList with
  | nil => rw [ht] at hmap; cases hmap
  | cons x t0 =>
    rw [ht] at hmap
    injection hmap with hx1 hx2
    injection hx1 with y1 y2
    injection y2 with y2 y3
    injection y3 with y3 y4
    cases t0 with
    | nil => cases hx2
    | cons x' t =>
      injection hx2 with hx1' hx2'
      injection hx1' with w1 w2
      injection w2 with w2 w3
      injection w3 with w3 w4
      have hcx : covers x pc = true := by simp only [covers, y1, y2]; simp [hcov]
      have hcx' : covers x' pc = true := by simp only [covers, w1, w2]; simp [hcov2]
      have hW := X2.warmed
      have hal := hW.alike
      have hW1 : s.WarmedH (T.vm.noted m.cls x.catchType (.cls k)) := by rw [y4]; exact hno _ hW
      have hal1 := hW1.alike
      have cls_at : ∀ {vm : Vm}, s.vm.Alike vm → ∀ {i : Nat} {zz : Class}, s.vm.classes[i]? = some zz → ∃ z, vm.classes[i]? = some z := fun h _ _ h9 => by
        obtain ⟨z8, h8, -⟩ := h.2.2 _ _ h9
        exact ⟨z8, h8⟩
      obtain ⟨z9, h9, -⟩ := Vm.findClass_spec hcc
      obtain ⟨t2, a1, b1⟩ := kk (T.setVm ((T.vm.noted m.cls x.catchType (.cls k)).noted m.cls x'.catchType (.cls k2))) hT (X2.noted (by rw [w4]; exact hno2 _ hW1))
      refine ⟨t2, go_there (g := F0 m pc ls rest) (pc := x'.handlerPc) (vm' := (T.vm.noted m.cls x.catchType (.cls k)).noted m.cls x'.catchType (.cls k2)) X2.here (fun Q E d acts => ?_) (by rw [w3]; exact a1), b1⟩
      refine (W.findHandler_eq (s := (T.setTop (F0 m pc ls rest)).pushFrame (.throwing q)) (f := F0 m pc ls rest) (meth := meth) (code := c) X2.method' X2.code).trans ?_
      rw [ht]
      refine (go_row (S := (T.setTop (F0 m pc ls rest)).pushFrame (.throwing q)) (f := F0 m pc ls rest) (x := x) (k := k) (cell := ce) hcx (by rw [y4]; exact hct) (by rw [y4]; exact hW.classLinks hcl) (by show T.heap[q]? = _; rw [hT]; exact hce) (fun j => by rw [hcv]; exact fun h => by cases h) (cls_at hal h9) (cls_at hal hz)).trans ?_
      rw [if_neg (show ¬ ((T.setTop (F0 m pc ls rest)).pushFrame (.throwing q)).vm.assignable ce.cls k = true by show ¬ T.vm.assignable ce.cls k = true; rw [hal.assignable, hn3]; decide)]
      refine (go_row (S := ((T.setTop (F0 m pc ls rest)).pushFrame (.throwing q)).setVm (T.vm.noted m.cls x.catchType (.cls k))) (f := F0 m pc ls rest) (x := x') (k := k2) (cell := ce) hcx' (by rw [w4]; exact hct2) (by rw [w4]; exact hW1.classLinks hcl2) (by show T.heap[q]? = _; rw [hT]; exact hce) (fun j => by rw [hcv]; exact fun h => by cases h) (cls_at hal1 h9) (cls_at hal1 hz2)).trans ?_
      rw [if_pos (show (((T.setTop (F0 m pc ls rest)).pushFrame (.throwing q)).setVm (T.vm.noted m.cls x.catchType (.cls k))).vm.assignable ce.cls k2 = true by show (T.vm.noted m.cls x.catchType (.cls k)).assignable ce.cls k2 = true; rw [hal1.assignable]; exact hasg)]
      exact Iff.rfl
end XCA
