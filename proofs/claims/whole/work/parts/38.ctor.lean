section KB
variable (cl : List vw_C)
abbrev rmk (f c s lo : Nat) : Room := { frames := f, cells := c, slots := s, locals := lo }
/-- the links to constructors that are private in their nest -/
def ntF (U : State) : Prop := va_Nw (.methodLinkNest "PageMachine" 9 ⟨"PageMachine$Memory", "<init>", "()V"⟩ "PageMachine") U ∧ va_Nw (.methodLinkNest "PageMachine" 25 ⟨"PageMachine$Tlb", "<init>", "()V"⟩ "PageMachine") U ∧ va_Nw (.methodLinkNest "PageMachine" 41 ⟨"PageMachine$Core", "<init>", "()V"⟩ "PageMachine") U
theorem ntF.warm {s U : State} (hW : s.WarmedH U.vm) (h : ntF s) : ntF U := ⟨h.1.warmM hW, h.2.1.warmM hW, h.2.2.warmM hW⟩
def kQ (E : Ev) (A : Nat → Prop) (w1 : (Nat → Nat) → va_W) : Array Value → State → Outcome → State → Prop := fun _ st oc t =>
  (oc = .returned none ∧ va_K E.1 cl (eT E) t ∧ ∃ na : Nat → Nat, va_P E.1 cl (w1 na) t.heap ∧ va_D A (w1 na)) ∧ va_F A st t
def kP (E : Ev) (nt : Prop) (av : List Value) (w0 : va_W) (sz : Nat) : Array Value → State → Prop := va_Pc av (fun U => U.heap.size = sz ∧ va_P E.1 cl w0 U.heap ∧ va_K E.1 cl (eT E) U ∧ va_D (fun _ => True) w0 ∧ eX E (va_A w0 sz) U U.heap ∧ (nt → ntF U))
/-- the contract of a constructor: from the world w0 to w1 at some new addresses -/
def kC (l : Launch) (E : Ev) (nt : Prop) (y : MethodName) (b : ByteArray) (n : Nat) (f c s lo : Nat) (av : List Value) (w0 : va_W) (w1 : (Nat → Nat) → va_W) : Prop :=
  ∀ sz : Nat, Met l y (mws y b n none) (rmk f c s lo) (kP cl E nt av w0 sz) (kQ cl E (va_A w0 sz) w1) c s (va_A w0 sz)
variable {cl}
theorem kC.of {l : Launch} {E : Ev} {nt : Prop} {y : MethodName} {b : ByteArray} {n : Nat} {f cc ss lo : Nat} {av : List Value} {w0 : va_W} {w1 : (Nat → Nat) → va_W} (hy : plainName y.cls = true) (hyn : y.name = "<init>") (hav : (lg_sl av).length ≤ n)
    (body : ∀ (p : Program) (e : Env) (s : State) (m : MethodId) (below : List Frame) (meth : Method) (c : Code) (A : Nat → Prop) (ls : Array Slot), Cx cl E A p s m av.toArray meth c b n none y.cls → meth.name = "<init>" → (nt → ntF s) → Wd cl E A s.heap s.heap [] w0 → lv_has ls n (lv_args 0 av) →
      W p l e (rmk f cc ss lo) s m av.toArray below meth c s.heap [] 0 0 (MQ below (kQ cl E A w1) av.toArray s cc ss A) (F0 m 0 ls [])) : kC cl l E nt y b n f cc ss lo av w0 w1 := by
  intro sz
  refine Met.ofW (cc := b) (maxL := n) (ret := none) hy rfl ?_
  intro p e s m args below meth c s₁ B hml hv
  obtain ⟨rfl, hsz, hP, hK, hD0, hX, hnt⟩ := hv
  have hts := atoms_spec (ws := mws y b n none) B.pre
  subst hsz
  have hl := lv_entry av (n := n) hav
  rw [lg_entry_eq]
  generalize (lg_sl av ++ List.replicate (n - (lg_sl av).length) Slot.unset).toArray = ls at hl ⊢
  exact body p e s m below meth c (va_A w0 s.heap.size) ls ⟨B.exec, B.bytes, hml, B.returns, B.notSynchronized, findClass_of_methodNamed B.named, fun w h => hts w (List.mem_cons_of_mem _ h), hK, hX⟩ ((name_of_methodNamed B.named B.method).1.trans hyn) hnt ⟨hP, hD0.self, va_S.rf, fun q h => Or.inr h⟩ hl
variable {p : Program} {l : Launch} {e : Env} {R : Room} {s : State} {m : MethodId} {args : Array Value} {below : List Frame} {meth : Method} {c : Code} {H : Heap} {locs : List Loc} {cells slots : Nat} {Q : State → Prop}
variable {E : Ev} {A : Nat → Prop} {b : ByteArray} {n : Nat} {r : Option FieldType} {own : String} {pc : Nat} {ls : Array Slot} {rest : List Value} {a : Nat} {ws : va_W}
theorem k_new {C : String} {T : u_T} {N ci index : Nat} {fs : List Value} (hc : Cx cl E A p s m args meth c b n r own) (w : Wd cl E A s.heap H locs ws) (hin : ∀ x ∈ u_ws C T N, x ∈ gt_bl) (ty : Nat → FieldType) (hty : ∀ k, k < N → parseFieldDescriptor (T k).2.2.1 = some (ty k)) (hl : Cond.classLink own index C ∈ gt_bl) (hi : Cond.instantiable C N ∈ gt_bl) (hn : Cond.initialized C ∈ gt_bl) (hcl : cl[ci]? = some (C, T, N))
    (hfs : ∀ j, j < N → defaultValue (ty j) = vp_V fs j) (hcells : cells + 1 ≤ R.cells) (hslots : slots + N ≤ R.slots) (hdg : decode b pc = .ok (.new index, 3))
    (kk : ∀ (q : Nat) (H1 : Heap), Wd cl E A s.heap H1 locs (ws ++ [(q, .inr (ci, fs))]) → W p l e R s m args below meth c H1 locs (cells + 1) (slots + N) Q (F0 m (pc + 3) ls (.ref q :: rest))) : W p l e R s m args below meth c H locs cells slots Q (F0 m pc ls rest) :=
  va_new (D := E.1) hc.1 hc.2.1 hc.2.2.2.2.2.2.1 hin ty hty hc.2.2.2.2.2.1 (hc.2.2.2.2.2.2.1 _ hl) (hc.2.2.2.2.2.2.1 _ hi) (hc.2.2.2.2.2.2.1 _ hn) hc.2.2.2.2.2.2.2.1 w.1 w.2.1 w.2.2.1 w.2.2.2 hcl hfs hcells hslots hdg (fun q H1 h1 h2 h3 => kk q H1 ⟨h1, h2, h3, w.2.2.2⟩)
theorem k_arrI {nn : Int32} {N : Nat} (hc : Cx cl E A p s m args meth c b n r own) (w : Wd cl E A s.heap H locs ws) (ha : Cond.arrayClass .int ∈ gt_bl) (hn : ¬ nn < 0) (hN : nn.toNatClampNeg = N) (hb : N * 4 ≤ 536870912) (hcells : cells + 1 ≤ R.cells) (hslots : slots + N ≤ R.slots) (hdg : decode b pc = .ok (.newarray .int, 2))
    (kk : ∀ (q : Nat) (H1 : Heap), Wd cl E A s.heap H1 locs (ws ++ [(q, .inl (E.2.1.1, N, .inl (fun _ => 0)))]) → W p l e R s m args below meth c H1 locs (cells + 1) (slots + N) Q (F0 m (pc + 2) ls (.ref q :: rest))) : W p l e R s m args below meth c H locs cells slots Q (F0 m pc ls (.int nn :: rest)) := by
  have hK := hc.2.2.2.2.2.2.2.1
  refine va_newa (D := E.1) (ty := .int) (a0 := (N, .inl (fun _ => 0))) hc.1 hc.2.1 (atype := .int) (hc.2.2.2.2.2.2.1 _ ha) rfl hK w.1 w.2.1 w.2.2.1 w.2.2.2 (fun _ => rfl) hn hN hb hcells hslots hdg (fun q cA H1 hK1 h1 h2 h3 => ?_)
  have e1 := va_nm_int (hK.2 0 _ rfl).2
  have e2 := va_nm_int (hK1.2 3 _ rfl).2
  cases Option.some.inj (e1.symm.trans e2)
  exact kk q H1 ⟨h1, h2, h3, w.2.2.2⟩
theorem k_arrZ {nn : Int32} {N : Nat} (hc : Cx cl E A p s m args meth c b n r own) (w : Wd cl E A s.heap H locs ws) (ha : Cond.arrayClass .boolean ∈ gt_bl) (hn : ¬ nn < 0) (hN : nn.toNatClampNeg = N) (hb : N * 1 ≤ 536870912) (hcells : cells + 1 ≤ R.cells) (hslots : slots + N ≤ R.slots) (hdg : decode b pc = .ok (.newarray .boolean, 2))
    (kk : ∀ (q : Nat) (H1 : Heap), Wd cl E A s.heap H1 locs (ws ++ [(q, .inl (E.2.1.2.1, N, .inl (fun _ => 0)))]) → W p l e R s m args below meth c H1 locs (cells + 1) (slots + N) Q (F0 m (pc + 2) ls (.ref q :: rest))) : W p l e R s m args below meth c H locs cells slots Q (F0 m pc ls (.int nn :: rest)) := by
  have hK := hc.2.2.2.2.2.2.2.1
  refine va_newa (D := E.1) (ty := .boolean) (a0 := (N, .inl (fun _ => 0))) hc.1 hc.2.1 (atype := .boolean) (hc.2.2.2.2.2.2.1 _ ha) rfl hK w.1 w.2.1 w.2.2.1 w.2.2.2 (fun _ => rfl) hn hN hb hcells hslots hdg (fun q cA H1 hK1 h1 h2 h3 => ?_)
  have e1 := va_nm_boolean (hK.2 1 _ rfl).2
  have e2 := va_nm_boolean (hK1.2 3 _ rfl).2
  cases Option.some.inj (e1.symm.trans e2)
  exact kk q H1 ⟨h1, h2, h3, w.2.2.2⟩
theorem k_arrL {nn : Int32} {N : Nat} (hc : Cx cl E A p s m args meth c b n r own) (w : Wd cl E A s.heap H locs ws) (ha : Cond.arrayClass .long ∈ gt_bl) (hn : ¬ nn < 0) (hN : nn.toNatClampNeg = N) (hb : N * 8 ≤ 536870912) (hcells : cells + 1 ≤ R.cells) (hslots : slots + N ≤ R.slots) (hdg : decode b pc = .ok (.newarray .long, 2))
    (kk : ∀ (q : Nat) (H1 : Heap), Wd cl E A s.heap H1 locs (ws ++ [(q, .inl (E.2.1.2.2, N, .inr (.inl (fun _ => 0))))]) → W p l e R s m args below meth c H1 locs (cells + 1) (slots + N) Q (F0 m (pc + 2) ls (.ref q :: rest))) : W p l e R s m args below meth c H locs cells slots Q (F0 m pc ls (.int nn :: rest)) := by
  have hK := hc.2.2.2.2.2.2.2.1
  refine va_newa (D := E.1) (ty := .long) (a0 := (N, .inr (.inl (fun _ => 0)))) hc.1 hc.2.1 (atype := .long) (hc.2.2.2.2.2.2.1 _ ha) rfl hK w.1 w.2.1 w.2.2.1 w.2.2.2 (fun _ => rfl) hn hN hb hcells hslots hdg (fun q cA H1 hK1 h1 h2 h3 => ?_)
  have e1 := va_nm_long (hK.2 2 _ rfl).2
  have e2 := va_nm_long (hK1.2 3 _ rfl).2
  cases Option.some.inj (e1.symm.trans e2)
  exact kk q H1 ⟨h1, h2, h3, w.2.2.2⟩
theorem k_putF {C : String} {T : u_T} {N ci index : Nat} {fs : List Value} {ty : FieldType} {v : Value} (hc : Cx cl E A p s m args meth c b n r own) (hi2 : meth.name = "<init>") (w : Wd cl E A s.heap H locs ws) (hin : ∀ x ∈ u_ws C T N, x ∈ gt_bl) (ty0 : Nat → FieldType) (hty : ∀ k, k < N → parseFieldDescriptor (T k).2.2.1 = some (ty0 k)) (hnm : ∀ a, a < N → ∀ b, b < N → a ≠ b → (T a).2.1 ≠ (T b).2.1)
    (q0 : Nat) (he : ws[q0]? = some (a, .inr (ci, fs))) (hcl : cl[ci]? = some (C, T, N)) (k : Nat) (hk : k < N) (hfin : (T k).2.2.2 = true) (hdecl : (T k).1 = own) (hd : parseFieldDescriptor (T k).2.2.1 = some ty) (hn : narrow ty v = v) (hfit : fits ty v = true) (hlen : k < fs.length) {ws' : va_W} (hws : ws.set q0 (a, .inr (ci, fs.set k v)) = ws')
    (hl : Cond.fieldLink own index (T k).1 (T k).2.1 (T k).2.2.1 ∈ gt_bl) (hdg : decode b pc = .ok (.putfield index, 3))
    (kk : ∀ (H1 : Heap) (locs1 : List Loc), Wd cl E A s.heap H1 locs1 ws' → W p l e R s m args below meth c H1 locs1 cells slots Q (F0 m (pc + 3) ls rest)) : W p l e R s m args below meth c H locs cells slots Q (F0 m pc ls (v :: .ref a :: rest)) :=
  va_putF (D := E.1) hc.1 hc.2.1 hc.2.2.2.2.2.2.1 hin ty0 hty hnm hc.2.2.2.2.2.1 hc.2.2.2.2.2.2.2.1 w.1 w.2.1 w.2.2.1 q0 he hcl k hk (hc.2.2.2.2.2.2.1 _ hl) (fun _ h => h) hfin hi2 hdecl hd hn hfit hlen hdg (fun H1 locs1 h1 h2 h3 => kk H1 locs1 ⟨by rw [← hws]; exact h1, by rw [← hws]; exact h2, h3, w.2.2.2⟩)
theorem k_obj {idx : Nat} (hc : Cx cl E A p s m args meth c b n r own) (hl : Cond.methodLink own idx objectInit ∈ gt_bl) (hi : Cond.instanceMethod objectInit ∈ gt_bl) (hcd : Cond.code objectInit ⟨#[0xb1]⟩ 1 none ∈ gt_bl) (hsz : ls.size = n) (hd : decode b pc = .ok (.invokespecial idx, 3)) (hf : 1 ≤ R.frames) (hlo : (rest.map fun v => v.category).sum + 12 ≤ R.locals)
    (kk : W p l e R s m args below meth c H locs cells slots Q (F0 m (pc + 3) ls rest)) : W p l e R s m args below meth c H locs cells slots Q (F0 m pc ls (.ref a :: rest)) :=
  W.objInit hc.1 hc.2.1 hc.2.2.2.2.2.1 (hc.2.2.2.2.2.2.1 _ hl) (hc.2.2.2.2.2.2.1 _ hi) (hc.2.2.2.2.2.2.1 _ hcd) rfl (by rw [hc.2.2.1]; exact hsz) rfl hd hf (by show 2 * 0 + _ + 12 ≤ _; omega) kk
theorem Wd.perm {H0 : Heap} {ws' : va_W} (w : Wd cl E A H0 H locs ws) (is : List Nat) (hn : va_nd is = true) (hs : is.map (fun i => ws[i]?) = ws'.map some) : Wd cl E A H0 H locs ws' := by
  refine ⟨?_, w.2.1.sub is hn hs, w.2.2.1, w.2.2.2⟩
  intro k q hk
  have h1 : (is.map (fun i => ws[i]?))[k]? = some (some q) := by rw [hs, List.getElem?_map, hk]; rfl
  rw [List.getElem?_map] at h1
  cases hi : is[k]? with
  | none => rw [hi] at h1; cases h1
  | some i => rw [hi] at h1; exact w.1 i q (Option.some.inj h1)
theorem k_ret {w1 : (Nat → Nat) → va_W} {cc ss : Nat} (hc : Cx cl E A p s m args meth c b n none own) (na : Nat → Nat) (w : Wd cl E A s.heap H locs (w1 na)) (h1 : cells ≤ cc) (h2 : slots ≤ ss) (hdg : decode b pc = .ok (.return_, 1)) :
    W p l e R s m args below meth c H locs cells slots (MQ below (kQ cl E A w1) args s cc ss A) (F0 m pc ls []) := by
  refine W.widen (k := cc) (n := ss) h1 h2 ?_
  exact W.vret hc.1 hc.2.1 hc.2.2.2.1 (fun t ht hW => ⟨⟨rfl, va_K.moved hW.alike hc.2.2.2.2.2.2.2.1, na, by rw [ht]; exact w.1, w.2.1⟩, w.2.2.1.F ht⟩) w.2.2.1.2.2 hdg hc.2.2.2.2.1
def KI (y : MethodName) (b : ByteArray) (n : Nat) (np : Nat) : Prop :=
  Cond.code y b n none ∈ gt_bl ∧ Cond.instanceMethod y ∈ gt_bl ∧ Cond.initialized y.cls ∈ gt_bl ∧ y.name = "<init>" ∧ (y.cls ≠ "java/lang/invoke/MethodHandle" ∧ y.cls ≠ "java/lang/invoke/VarHandle" ∧ (parseMethodDescriptor y.desc).map (fun d => d.parameters.length) = some np)
theorem k_back {wr wc : va_W} {w1 : (Nat → Nat) → va_W} {st0 : List Value} {av : Array Value} {mc ms : Nat} (w : Wd cl E A s.heap H locs (wr ++ wc))
    (hr : va_Run p l e R s m args below meth c H locs cells slots mc ms (F0 m pc ls st0) rest (kQ cl E (va_A wc H.size) w1 av) (va_A wc H.size))
    (kk : ∀ (na : Nat → Nat) (H1 : Heap) (locs1 : List Loc), Wd cl E A s.heap H1 locs1 (wr ++ w1 na) → W p l e R s m args below meth c H1 locs1 (cells + mc) (slots + ms) Q (F0 m (pc + 3) ls rest)) : W p l e R s m args below meth c H locs cells slots Q (F0 m pc ls st0) := by
  intro T hT X
  obtain ⟨v, st₀, t, T', L, h0, X', hL, e1, e2, ⟨⟨hv, hk1, na, hp, hd⟩, hF⟩, st⟩ := hr T hT X
  cases hv
  obtain ⟨t2, a1, b1⟩ := kk na T'.heap (locs ++ L) (fr_back w h0 e1 hp hd hF hL) T' rfl X'
  exact ⟨t2, st t2 a1, b1⟩
theorem k_pre {wr wc : va_W} {av : List Value} {nt : Prop} (hc : Cx cl E A p s m args meth c b n r own) (w : Wd cl E A s.heap H locs (wr ++ wc)) (hnt : nt → ntF s) : PreS s H (kP cl E nt av wc H.size) av := by
  have w' := fr_sub w
  refine ⟨?_, ?_⟩
  · intro a U g mk q
    obtain ⟨q0, q1, qP, qK, qD, qX, qN⟩ := q
    exact ⟨q0, q1, qP, va_K.moved (u := U) (U := U.calling g mk a) (Vm.Alike.refl U.vm) qK, qD, qX.at (U := U.calling g mk a) (fun _ _ _ => rfl) (fun _ _ h => h) (Vm.Alike.refl U.vm), fun h => (qN h).warm (U := U.calling g mk a) (State.WarmedH.refl U)⟩
  · intro U hU hW
    refine ⟨rfl, by rw [hU], by rw [hU]; exact w'.1, va_K.moved hW.alike hc.2.2.2.2.2.2.2.1, w'.2.1.weaken (fun _ _ _ _ => trivial), ?_, fun h => (hnt h).warm hW⟩
    rw [hU]
    exact hc.2.2.2.2.2.2.2.2.at w'.2.2.1.2.1 (fun q _ h => r_free (wd := fun u : va_W => u) (σ := wc) w' q h) hW.alike
/-- a constructor is called on the newest cell -/
theorem k_call {wr wc : va_W} {w1 : (Nat → Nat) → va_W} {nt : Prop} {y : MethodName} {b' : ByteArray} {n' f cc ss lo index : Nat} {As st : List Value} (hc : Cx cl E A p s m args meth c b n r own) (w : Wd cl E A s.heap H locs (wr ++ wc)) (hM : kC cl l E nt y b' n' f cc ss lo (.ref a :: As) wc w1) (ki : KI y b' n' As.length) (hnt : nt → ntF s)
    (hl : Cond.methodLink own index y ∈ gt_bl) (hR : f + 1 ≤ R.frames ∧ 8 + (n' + 11) + lo ≤ R.locals) (hsz : ls.size = n) (hst : st = As.reverse ++ .ref a :: rest) (hcat : (rest.map fun v => v.category).sum ≤ 8) (hf : cells + cc ≤ R.cells ∧ slots + ss ≤ R.slots) (hdg : decode b pc = .ok (.invokespecial index, 3))
    (kk : ∀ (na : Nat → Nat) (H1 : Heap) (locs1 : List Loc), Wd cl E A s.heap H1 locs1 (wr ++ w1 na) → W p l e R s m args below meth c H1 locs1 (cells + cc) (slots + ss) Q (F0 m (pc + 3) ls rest)) : W p l e R s m args below meth c H locs cells slots Q (F0 m pc ls st) := by
  subst hst
  have hT := hc.2.2.2.2.2.2.1
  exact k_back w (va_runI (As := As) (rest := rest) ⟨hc.1, hc.2.1, hc.2.2.1, hc.2.2.2.2.2.1, hT⟩ (hM H.size) (cwI As.length hT (gi_m ki.1) rfl rfl rfl (hT _ ki.2.2.1) (hT _ hl) (hT _ ki.2.1) ki.2.2.2.1 ki.2.2.2.2 hR) (k_pre hc w hnt) rfl rfl hsz rfl (lv_room hcat) hdg hf) kk
theorem k_callN {wr wc : va_W} {w1 : (Nat → Nat) → va_W} {nt : Prop} {y : MethodName} {b' : ByteArray} {n' f cc ss lo index : Nat} {host : String} {As st : List Value} (hc : Cx cl E A p s m args meth c b n r own) (w : Wd cl E A s.heap H locs (wr ++ wc)) (hM : kC cl l E nt y b' n' f cc ss lo (.ref a :: As) wc w1) (ki : KI y b' n' As.length) (hnt : nt → ntF s)
    (hl : va_Nw (.methodLinkNest own index y host) s) (hR : f + 1 ≤ R.frames ∧ 8 + (n' + 11) + lo ≤ R.locals) (hsz : ls.size = n) (hst : st = As.reverse ++ .ref a :: rest) (hcat : (rest.map fun v => v.category).sum ≤ 8) (hf : cells + cc ≤ R.cells ∧ slots + ss ≤ R.slots) (hdg : decode b pc = .ok (.invokespecial index, 3))
    (kk : ∀ (na : Nat → Nat) (H1 : Heap) (locs1 : List Loc), Wd cl E A s.heap H1 locs1 (wr ++ w1 na) → W p l e R s m args below meth c H1 locs1 (cells + cc) (slots + ss) Q (F0 m (pc + 3) ls rest)) : W p l e R s m args below meth c H locs cells slots Q (F0 m pc ls st) := by
  subst hst
  have hT := hc.2.2.2.2.2.2.1
  exact k_back w (va_runIN (As := As) (rest := rest) ⟨hc.1, hc.2.1, hc.2.2.1, hc.2.2.2.2.2.1, hT⟩ (hM H.size) ⟨va_cnB As.length hT (gi_m ki.1) rfl rfl rfl hl (hT _ ki.2.2.1) ki.2.2.2.2 hR, ki.2.2.2.1, hT _ ki.2.1⟩ (k_pre hc w hnt) rfl rfl hsz rfl (lv_room hcat) hdg hf) kk
end KB
