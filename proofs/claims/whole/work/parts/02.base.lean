/-! the words of all methods: one list for all; a contract over one world picture; rows for it -/
def gt_bl : List Cond := lw_tbl.filter goodWord
theorem gt_in {w : Cond} (h : w ∈ lw_tbl) (g : goodWord w = true) : w ∈ gt_bl := List.mem_filter.mpr ⟨h, g⟩
theorem gt_good {w : Cond} (h : w ∈ gt_bl) : (w.onTables && w.keeps) = true ∨ ∃ ty, w = .arrayClass ty := good_of_word (List.mem_filter.mp h).2
abbrev mws (y : MethodName) (b : ByteArray) (n : Nat) (r : Option FieldType) : List Cond := .code y b n r :: gt_bl
abbrev rmo (f lo : Nat) : Room := { frames := f, cells := 0, slots := 0, locals := lo }
abbrev Ev : Type := va_G × (ClassId × ClassId × ClassId) × (Nat × Nat)
abbrev eT (E : Ev) : List (ClassId × FieldType) := [(E.2.1.1, .int), (E.2.1.2.1, .boolean), (E.2.1.2.2, .long)]
def wbI (j : Nat) : Int32 := ([0x0000001F, 0, 0x03FFFFFF, 0x03FFFFFF, -8388608, 0, 0x0000001F, 0, 0, -1, -7937, -1, 0x1000FF13, 0x00000300, -1] : List Int32).getD j 0
def rhI (j : Nat) : Int32 := ([1075519488, -1887830016, 1083838464, -1887764476, 1083906048, 1107296262, 1107296280] : List Int32).getD j 0
/-- the two static arrays, outside of what may change -/
def eX (E : Ev) (A : Nat → Prop) (U : State) (H : Heap) : Prop :=
  (va_Z "PageMachine$SystemRegisters" "WRITTEN_BITS" "[I" (.ref E.2.2.1) A U H ∧ va_T .int E.2.2.1 32 (fun j => .int (wbI j)) A U H) ∧
  (va_Z "PageMachine" "REFILL_HANDLER" "[I" (.ref E.2.2.2) A U H ∧ va_T .int E.2.2.2 7 (fun j => .int (rhI j)) A U H)
theorem gi_m {y : MethodName} {b : ByteArray} {n : Nat} {r : Option FieldType} (h : Cond.code y b n r ∈ gt_bl) : GoodIn gt_bl (mws y b n r) := by
  intro w hw
  rcases List.mem_cons.mp hw with rfl | h2
  · exact ⟨h, gt_good h⟩
  · exact ⟨h2, gt_good h2⟩
def KV (y : MethodName) (b : ByteArray) (n : Nat) (r : Option FieldType) (np : Nat) : Prop :=
  Cond.code y b n r ∈ gt_bl ∧ Cond.instanceMethod y ∈ gt_bl ∧ Cond.selects y.cls y y ∈ gt_bl ∧ Cond.initialized y.cls ∈ gt_bl ∧
  (y.cls ≠ "java/lang/invoke/MethodHandle" ∧ y.cls ≠ "java/lang/invoke/VarHandle" ∧ (parseMethodDescriptor y.desc).map (fun d => d.parameters.length) = some np)
def KS (y : MethodName) (b : ByteArray) (n : Nat) (r : Option FieldType) (np : Nat) : Prop :=
  Cond.code y b n r ∈ gt_bl ∧ Cond.static y ∈ gt_bl ∧ Cond.initialized y.cls ∈ gt_bl ∧
  (y.cls ≠ "java/lang/invoke/MethodHandle" ∧ y.cls ≠ "java/lang/invoke/VarHandle" ∧ (parseMethodDescriptor y.desc).map (fun d => d.parameters.length) = some np)
theorem gi_V {y : MethodName} {b : ByteArray} {n np : Nat} {r : Option FieldType} {own : String} {index : Nat} (k : KV y b n r np) (hl : Cond.methodLink own index y ∈ gt_bl) : GoodIn gt_bl (wsV own index y.cls y (mws y b n r)) := by
  obtain ⟨h, h1, h2, h3, -⟩ := k
  intro w hw
  rcases List.mem_append.mp hw with h4 | h4
  · have h5 : w = Cond.methodLink own index y ∨ w = Cond.instanceMethod y ∨ w = Cond.selects y.cls y y ∨ w = Cond.initialized y.cls := by simpa using h4
    rcases h5 with rfl | rfl | rfl | rfl
    · exact ⟨hl, gt_good hl⟩
    · exact ⟨h1, gt_good h1⟩
    · exact ⟨h2, gt_good h2⟩
    · exact ⟨h3, gt_good h3⟩
  · exact gi_m h w h4
theorem gi_S {y : MethodName} {b : ByteArray} {n np : Nat} {r : Option FieldType} {own : String} {index : Nat} (k : KS y b n r np) (hl : Cond.methodLink own index y ∈ gt_bl) : GoodIn gt_bl (va_wsS own index y (mws y b n r)) := by
  obtain ⟨h, h1, h2, -⟩ := k
  intro w hw
  rcases List.mem_append.mp hw with h4 | h4
  · have h5 : w = Cond.methodLink own index y ∨ w = Cond.static y ∨ w = Cond.initialized y.cls := by simpa using h4
    rcases h5 with rfl | rfl | rfl
    · exact ⟨hl, gt_good hl⟩
    · exact ⟨h1, gt_good h1⟩
    · exact ⟨h2, gt_good h2⟩
  · exact gi_m h w h4
/-- the statics hold on: the heap changed inside A alone, the callee may change less -/
theorem eX.at {E : Ev} {A A' : Nat → Prop} {s U : State} {H : Heap} (h : eX E A s s.heap) (hk : ∀ q : Nat, q < s.heap.size → ¬ A q → H[q]? = s.heap[q]?) (hn : ∀ q, q < s.heap.size → A' q → A q) (hvm : s.vm.Alike U.vm) : eX E A' U H := by
  obtain ⟨⟨h1, h2⟩, h3, h4⟩ := h
  have z : ∀ {C n d : String} {v : Value}, va_Z C n d v A s s.heap → va_Z C n d v A' U H := by
    intro C n d v hz
    have hz2 := hz.moved hvm
    obtain ⟨cf, kf, fi, f, a, cell, g1, g2, g3, g4, g5, g6, g7, g8⟩ := hz2
    have hlt := (Array.getElem?_eq_some_iff.mp g5).1
    exact ⟨cf, kf, fi, f, a, cell, g1, g2, g3, g4, by rw [hk a hlt g8]; exact g5, g6, g7, fun q => g8 (hn a hlt q)⟩
  have t : ∀ {ty : FieldType} {t N : Nat} {f : Nat → Value}, va_T ty t N f A s s.heap → va_T ty t N f A' U H := by
    intro ty t N f hz
    have hz2 := hz.moved hvm
    obtain ⟨cell, g1, g2, g3, g4, g5, g6, g7⟩ := hz2
    have hlt := (Array.getElem?_eq_some_iff.mp g1).1
    exact ⟨cell, by rw [hk t hlt g7]; exact g1, g2, g3, g4, g5, g6, fun q => g7 (hn t hlt q)⟩
  exact ⟨⟨z h1, t h2⟩, z h3, t h4⟩
section RB
variable (cl : List vw_C)
/-- what stands fast while a method runs -/
def Cx (E : Ev) (A : Nat → Prop) (p : Program) (s : State) (m : MethodId) (args : Array Value) (meth : Method) (c : Code) (b : ByteArray) (n : Nat) (r : Option FieldType) (own : String) : Prop :=
  p.tables.exec = Jvm.exec ∧ c.code = b ∧ c.maxLocals = n ∧ meth.sig.returnType = r ∧ meth.locks = false ∧ s.vm.findClass own = some m.cls ∧ (∀ w ∈ gt_bl, w.before args s = true) ∧ va_K E.1 cl (eT E) s ∧ eX E A s s.heap
def Wd (E : Ev) (A : Nat → Prop) (H0 H : Heap) (locs : List Loc) (ws : va_W) : Prop := va_P E.1 cl ws H ∧ va_D A ws ∧ va_S A H0 H locs ∧ ∀ q : Nat, H0.size ≤ q → A q
def rQ {S : Type} (wd : S → va_W) (E : Ev) (A : Nat → Prop) (Z : S × Option Value) : Array Value → State → Outcome → State → Prop := fun _ st oc t =>
  (oc = .returned Z.2 ∧ va_P E.1 cl (wd Z.1) t.heap ∧ va_K E.1 cl (eT E) t ∧ va_D A (wd Z.1)) ∧ va_F A st t
/-- the contract of a method that makes nothing and throws nothing: from the world of σ to that of Z.1, the answer Z.2 -/
def rC {S : Type} (l : Launch) (E : Ev) (wd : S → va_W) (y : MethodName) (b : ByteArray) (n : Nat) (r : Option FieldType) (rm : Room) (av : List Value) (σ : S) (Z : S × Option Value) : Prop :=
  ∀ sz : Nat, Met l y (mws y b n r) rm (va_Pc av (fun U => U.heap.size = sz ∧ va_P E.1 cl (wd σ) U.heap ∧ va_K E.1 cl (eT E) U ∧ va_D (fun _ => True) (wd σ) ∧ eX E (va_A (wd σ) sz) U U.heap)) (rQ cl wd E (va_A (wd σ) sz) Z) 0 0 (va_A (wd σ) sz)
variable {cl}
theorem rC.of {S : Type} {l : Launch} {E : Ev} {wd : S → va_W} {y : MethodName} {b : ByteArray} {n : Nat} {r : Option FieldType} {f lo : Nat} {av : List Value} {σ : S} {Z : S × Option Value} (hy : plainName y.cls = true) (hav : (lg_sl av).length ≤ n)
    (body : ∀ (p : Program) (e : Env) (s : State) (m : MethodId) (below : List Frame) (meth : Method) (c : Code) (A : Nat → Prop) (ls : Array Slot), Cx cl E A p s m av.toArray meth c b n r y.cls → Wd cl E A s.heap s.heap [] (wd σ) → lv_has ls n (lv_args 0 av) →
      W p l e (rmo f lo) s m av.toArray below meth c s.heap [] 0 0 (MQ below (rQ cl wd E A Z) av.toArray s 0 0 A) (F0 m 0 ls [])) : rC cl l E wd y b n r (rmo f lo) av σ Z := by
  intro sz
  refine Met.ofW (cc := b) (maxL := n) (ret := r) hy rfl ?_
  intro p e s m args below meth c s₁ B hml hv
  obtain ⟨rfl, hsz, hP, hK, hD0, hX⟩ := hv
  have hts := atoms_spec (ws := mws y b n r) B.pre
  subst hsz
  have hl := lv_entry av (n := n) hav
  rw [lg_entry_eq]
  generalize (lg_sl av ++ List.replicate (n - (lg_sl av).length) Slot.unset).toArray = ls at hl ⊢
  exact body p e s m below meth c (va_A (wd σ) s.heap.size) ls ⟨B.exec, B.bytes, hml, B.returns, B.notSynchronized, findClass_of_methodNamed B.named, fun w h => hts w (List.mem_cons_of_mem _ h), hK, hX⟩ ⟨hP, hD0.self, va_S.rf, fun q h => Or.inr h⟩ hl
variable {p : Program} {l : Launch} {e : Env} {R : Room} {s : State} {m : MethodId} {args : Array Value} {below : List Frame} {meth : Method} {c : Code} {H : Heap} {locs : List Loc} {cells slots : Nat} {Q : State → Prop}
variable {E : Ev} {A : Nat → Prop} {b : ByteArray} {n : Nat} {r : Option FieldType} {own : String} {pc : Nat} {ls : Array Slot} {rest : List Value} {a : Nat} {ws : va_W}
theorem rt_i {S : Type} {wd : S → va_W} {σ' : S} {Z : S × Option Value} {v : Int32} (hc : Cx cl E A p s m args meth c b n (some .int) own) (w : Wd cl E A s.heap H locs (wd σ')) (hdg : decode b pc = .ok (.ireturn, 1)) (hz : Z = (σ', some (.int v))) :
    W p l e R s m args below meth c H locs 0 0 (MQ below (rQ cl wd E A Z) args s 0 0 A) (F0 m pc ls [.int v]) := by
  subst hz
  exact W.iret hc.1 hc.2.1 hc.2.2.2.1 (fun t ht hW => ⟨⟨rfl, by rw [ht]; exact w.1, va_K.moved hW.alike hc.2.2.2.2.2.2.2.1, w.2.1⟩, w.2.2.1.F ht⟩) w.2.2.1.2.2 hdg hc.2.2.2.2.1
theorem rt_l {S : Type} {wd : S → va_W} {σ' : S} {Z : S × Option Value} {v : Int64} (hc : Cx cl E A p s m args meth c b n (some .long) own) (w : Wd cl E A s.heap H locs (wd σ')) (hdg : decode b pc = .ok (.lreturn, 1)) (hz : Z = (σ', some (.long v))) :
    W p l e R s m args below meth c H locs 0 0 (MQ below (rQ cl wd E A Z) args s 0 0 A) (F0 m pc ls [.long v]) := by
  subst hz
  exact W.lret hc.1 hc.2.1 hc.2.2.2.1 (fun t ht hW => ⟨⟨rfl, by rw [ht]; exact w.1, va_K.moved hW.alike hc.2.2.2.2.2.2.2.1, w.2.1⟩, w.2.2.1.F ht⟩) w.2.2.1.2.2 hdg hc.2.2.2.2.1
theorem rt_v {S : Type} {wd : S → va_W} {σ' : S} {Z : S × Option Value} (hc : Cx cl E A p s m args meth c b n none own) (w : Wd cl E A s.heap H locs (wd σ')) (hdg : decode b pc = .ok (.return_, 1)) (hz : Z = (σ', none)) :
    W p l e R s m args below meth c H locs 0 0 (MQ below (rQ cl wd E A Z) args s 0 0 A) (F0 m pc ls []) := by
  subst hz
  exact W.vret hc.1 hc.2.1 hc.2.2.2.1 (fun t ht hW => ⟨⟨rfl, by rw [ht]; exact w.1, va_K.moved hW.alike hc.2.2.2.2.2.2.2.1, w.2.1⟩, w.2.2.1.F ht⟩) w.2.2.1.2.2 hdg hc.2.2.2.2.1
/-- a Bool as the machine has it -/
def zb (x : Bool) : Int32 := if x then 1 else 0
theorem zb_n (x : Bool) : narrow .boolean (.int (zb x)) = .int (zb x) := by cases x <;> rfl
theorem zb_f (x : Bool) : fits .boolean (.int (zb x)) = true := by cases x <;> rfl
theorem zb_0 {x : Bool} : zb x = 0 ↔ x = false := by cases x <;> decide
theorem rt_z {S : Type} {wd : S → va_W} {σ' : S} {Z : S × Option Value} {v : Bool} {v' : Int32} (hc : Cx cl E A p s m args meth c b n (some .boolean) own) (w : Wd cl E A s.heap H locs (wd σ')) (hdg : decode b pc = .ok (.ireturn, 1)) (hv : v' = zb v) (hz : Z = (σ', some (.int (zb v)))) :
    W p l e R s m args below meth c H locs 0 0 (MQ below (rQ cl wd E A Z) args s 0 0 A) (F0 m pc ls [.int v']) := by
  subst hz
  subst hv
  exact W.zret hc.1 hc.2.1 hc.2.2.2.1 (zb_n v) (fun t ht hW => ⟨⟨rfl, by rw [ht]; exact w.1, va_K.moved hW.alike hc.2.2.2.2.2.2.2.1, w.2.1⟩, w.2.2.1.F ht⟩) w.2.2.1.2.2 hdg hc.2.2.2.2.1
theorem rg {C : String} {T : u_T} {N ci index : Nat} {fs : List Value} {v : Value} (hc : Cx cl E A p s m args meth c b n r own) (w : Wd cl E A s.heap H locs ws) (hin : ∀ x ∈ u_ws C T N, x ∈ gt_bl) (q0 : Nat) (he : ws[q0]? = some (a, .inr (ci, fs))) (hcl : cl[ci]? = some (C, T, N)) (k : Nat) (hk : k < N)
    (hv : fs[k]? = some v) (hl : Cond.fieldLink own index (T k).1 (T k).2.1 (T k).2.2.1 ∈ gt_bl) (hdg : decode b pc = .ok (.getfield index, 3))
    (kk : W p l e R s m args below meth c H locs cells slots Q (F0 m (pc + 3) ls (v :: rest))) : W p l e R s m args below meth c H locs cells slots Q (F0 m pc ls (.ref a :: rest)) :=
  va_get (D := E.1) hc.1 hc.2.1 hc.2.2.2.2.2.2.1 hin hc.2.2.2.2.2.1 hc.2.2.2.2.2.2.2.1 w.1 q0 he hcl k hk (hc.2.2.2.2.2.2.1 _ hl) (fun _ h => h) hv hdg kk
theorem rp {C : String} {T : u_T} {N ci index : Nat} {fs : List Value} {ty : FieldType} {v : Value} (hc : Cx cl E A p s m args meth c b n r own) (w : Wd cl E A s.heap H locs ws) (hin : ∀ x ∈ u_ws C T N, x ∈ gt_bl) (ty0 : Nat → FieldType) (hty : ∀ k, k < N → parseFieldDescriptor (T k).2.2.1 = some (ty0 k)) (hnm : ∀ a, a < N → ∀ b, b < N → a ≠ b → (T a).2.1 ≠ (T b).2.1)
    (q0 : Nat) (he : ws[q0]? = some (a, .inr (ci, fs))) (hcl : cl[ci]? = some (C, T, N)) (k : Nat) (hk : k < N) (hfin : (T k).2.2.2 = false) (hd : parseFieldDescriptor (T k).2.2.1 = some ty) (hn : narrow ty v = v) (hfit : fits ty v = true) (hlen : k < fs.length) {ws' : va_W} (hws : ws.set q0 (a, .inr (ci, fs.set k v)) = ws')
    (hl : Cond.fieldLink own index (T k).1 (T k).2.1 (T k).2.2.1 ∈ gt_bl) (hdg : decode b pc = .ok (.putfield index, 3))
    (kk : ∀ (H1 : Heap) (locs1 : List Loc), Wd cl E A s.heap H1 locs1 ws' → W p l e R s m args below meth c H1 locs1 cells slots Q (F0 m (pc + 3) ls rest)) : W p l e R s m args below meth c H locs cells slots Q (F0 m pc ls (v :: .ref a :: rest)) :=
  va_put (D := E.1) hc.1 hc.2.1 hc.2.2.2.2.2.2.1 hin ty0 hty hnm hc.2.2.2.2.2.1 hc.2.2.2.2.2.2.2.1 w.1 w.2.1 w.2.2.1 q0 he hcl k hk (hc.2.2.2.2.2.2.1 _ hl) (fun _ h => h) hfin hd hn hfit hlen hdg (fun H1 locs1 h1 h2 h3 => kk H1 locs1 ⟨by rw [← hws]; exact h1, by rw [← hws]; exact h2, h3, w.2.2.2⟩)
theorem ra {N : Nat} {f : Nat → Int32} {i : Int32} (hc : Cx cl E A p s m args meth c b n r own) (w : Wd cl E A s.heap H locs ws) (q0 : Nat) (he : ws[q0]? = some (a, .inl (E.2.1.1, N, .inl f))) (hin : vp_in i N) (hdg : decode b pc = .ok (.iaload, 1))
    (kk : W p l e R s m args below meth c H locs cells slots Q (F0 m (pc + 1) ls (.int (f i.toNatClampNeg) :: rest))) : W p l e R s m args below meth c H locs cells slots Q (F0 m pc ls (.int i :: .ref a :: rest)) :=
  va_iald (D := E.1) hc.1 hc.2.1 hc.2.2.2.2.2.2.2.1 w.1 q0 0 he rfl hin hdg kk
theorem rs {N : Nat} {f : Nat → Int32} {i x : Int32} (hc : Cx cl E A p s m args meth c b n r own) (w : Wd cl E A s.heap H locs ws) (q0 : Nat) (he : ws[q0]? = some (a, .inl (E.2.1.1, N, .inl f))) {ws' : va_W} (hws : ws.set q0 (a, .inl (E.2.1.1, N, .inl (upd f i.toNatClampNeg x))) = ws') (hin : vp_in i N) (hdg : decode b pc = .ok (.iastore, 1))
    (kk : ∀ (H1 : Heap) (locs1 : List Loc), Wd cl E A s.heap H1 locs1 ws' → W p l e R s m args below meth c H1 locs1 cells slots Q (F0 m (pc + 1) ls rest)) : W p l e R s m args below meth c H locs cells slots Q (F0 m pc ls (.int x :: .int i :: .ref a :: rest)) :=
  va_iast (D := E.1) hc.1 hc.2.1 hc.2.2.2.2.2.2.2.1 w.1 w.2.1 w.2.2.1 q0 0 he rfl hin hdg (fun H1 locs1 h1 h2 h3 => kk H1 locs1 ⟨by rw [← hws]; exact h1, by rw [← hws]; exact h2, h3, w.2.2.2⟩)
/-- arrays of booleans: the picture holds Bools -/
theorem ra_z {N : Nat} {f : Nat → Bool} {i : Int32} (hc : Cx cl E A p s m args meth c b n r own) (w : Wd cl E A s.heap H locs ws) (q0 : Nat) (he : ws[q0]? = some (a, .inl (E.2.1.2.1, N, .inl (fun j => zb (f j))))) (hin : vp_in i N) (hdg : decode b pc = .ok (.baload, 1))
    (kk : W p l e R s m args below meth c H locs cells slots Q (F0 m (pc + 1) ls (.int (zb (f i.toNatClampNeg)) :: rest))) : W p l e R s m args below meth c H locs cells slots Q (F0 m pc ls (.int i :: .ref a :: rest)) :=
  va_zald (D := E.1) hc.1 hc.2.1 hc.2.2.2.2.2.2.2.1 w.1 q0 1 he rfl hin hdg kk
def updB (f : Nat → Bool) (k : Nat) (x : Bool) : Nat → Bool := fun j => if j = k then x else f j
theorem updB_z (f : Nat → Bool) (k : Nat) (x : Bool) : upd (fun j => zb (f j)) k (vp_nar .boolean (zb x)) = fun j => zb (updB f k x j) := by
  funext j
  have hx : vp_nar .boolean (zb x) = zb x := by cases x <;> rfl
  rw [hx]
  unfold upd updB
  split <;> rfl
theorem rs_z {N : Nat} {f : Nat → Bool} {i : Int32} {x : Bool} (hc : Cx cl E A p s m args meth c b n r own) (w : Wd cl E A s.heap H locs ws) (q0 : Nat) (he : ws[q0]? = some (a, .inl (E.2.1.2.1, N, .inl (fun j => zb (f j))))) {ws' : va_W} (hws : ws.set q0 (a, .inl (E.2.1.2.1, N, .inl (fun j => zb (updB f i.toNatClampNeg x j)))) = ws') (hin : vp_in i N) (hdg : decode b pc = .ok (.bastore, 1))
    (kk : ∀ (H1 : Heap) (locs1 : List Loc), Wd cl E A s.heap H1 locs1 ws' → W p l e R s m args below meth c H1 locs1 cells slots Q (F0 m (pc + 1) ls rest)) : W p l e R s m args below meth c H locs cells slots Q (F0 m pc ls (.int (zb x) :: .int i :: .ref a :: rest)) :=
  va_zast (D := E.1) hc.1 hc.2.1 hc.2.2.2.2.2.2.2.1 w.1 w.2.1 w.2.2.1 q0 1 he rfl hin hdg (fun H1 locs1 h1 h2 h3 => kk H1 locs1 ⟨by rw [← hws, ← updB_z]; exact h1, by rw [← hws, ← updB_z]; exact h2, h3, w.2.2.2⟩)
theorem r_blind {S : Type} {wd : S → va_W} {av : List Value} {σ : S} {sz : Nat} : FrameBlind (va_Pc av (fun U => U.heap.size = sz ∧ va_P E.1 cl (wd σ) U.heap ∧ va_K E.1 cl (eT E) U ∧ va_D (fun _ => True) (wd σ) ∧ eX E (va_A (wd σ) sz) U U.heap)) := by
  intro a U g mk q
  obtain ⟨q0, q1, qP, qK, qD, qX⟩ := q
  exact ⟨q0, q1, qP, va_K.moved (u := U) (U := U.calling g mk a) (Vm.Alike.refl U.vm) qK, qD, qX.at (U := U.calling g mk a) (fun _ _ _ => rfl) (fun _ _ h => h) (Vm.Alike.refl U.vm)⟩
theorem r_pre {S : Type} {wd : S → va_W} {av : List Value} {σ : S} (hc : Cx cl E A p s m args meth c b n r own) (w : Wd cl E A s.heap H locs (wd σ)) : ∀ U : State, U.heap = H → s.WarmedH U.vm → va_Pc av (fun U => U.heap.size = H.size ∧ va_P E.1 cl (wd σ) U.heap ∧ va_K E.1 cl (eT E) U ∧ va_D (fun _ => True) (wd σ) ∧ eX E (va_A (wd σ) H.size) U U.heap) av.toArray U := by
  intro U hU hW
  refine ⟨rfl, by rw [hU], by rw [hU]; exact w.1, va_K.moved hW.alike hc.2.2.2.2.2.2.2.1, w.2.1.weaken (fun _ _ _ _ => trivial), ?_⟩
  rw [hU]
  refine hc.2.2.2.2.2.2.2.2.at w.2.2.1.2.1 (fun q _ h => ?_) hW.alike
  rcases h with ⟨k, e, h⟩ | h
  · exact w.2.1.2 k _ h
  · exact w.2.2.2 q (Nat.le_trans w.2.2.1.1 h)
theorem r_free {S : Type} {wd : S → va_W} {σ : S} (w : Wd cl E A s.heap H locs (wd σ)) : ∀ q, va_A (wd σ) H.size q → A q := by
  intro q h
  rcases h with ⟨k, e, h⟩ | h
  · exact w.2.1.2 k _ h
  · exact w.2.2.2 q (Nat.le_trans w.2.2.1.1 h)
/-- behind a call that keeps its contract -/
theorem r_call {S : Type} {wd : S → va_W} {σ : S} {Z : S × Option Value} {st0 : List Value} {a : Array Value} (w : Wd cl E A s.heap H locs (wd σ))
    (hr : va_Run p l e R s m args below meth c H locs cells slots 0 0 (F0 m pc ls st0) rest (rQ cl wd E (va_A (wd σ) H.size) Z a) (va_A (wd σ) H.size))
    (kk : ∀ (H1 : Heap) (locs1 : List Loc), Wd cl E A s.heap H1 locs1 (wd Z.1) → W p l e R s m args below meth c H1 locs1 cells slots Q (F0 m (pc + 3) ls (Z.2.toList ++ rest))) : W p l e R s m args below meth c H locs cells slots Q (F0 m pc ls st0) := by
  intro T hT X
  have hS := w.2.2.1
  have hF := r_free w
  obtain ⟨v, st₀, t, T', L, h0, X', hL, e1, e2, ⟨⟨hv, hp, hk1, hd⟩, hz, hk⟩, st⟩ := hr T hT X
  cases hv
  rw [h0] at hz hk
  have w1 : Wd cl E A s.heap T'.heap (locs ++ L) (wd Z.1) := by
    refine ⟨by rw [e1]; exact hp, hd.weaken (fun _ _ _ h => hF _ h), ⟨Nat.le_trans hS.1 (by rw [e1]; exact hz), fun q h1 h2 => by rw [e1, hk q (Nat.lt_of_lt_of_le h1 hS.1) (fun z => h2 (hF q z))]; exact hS.2.1 q h1 h2, fun q hq => ?_⟩, w.2.2.2⟩
    rcases List.mem_append.mp hq with h | h
    · exact hS.2.2 q h
    · exact hF _ (hL q h)
  obtain ⟨t2, a1, b1⟩ := kk T'.heap (locs ++ L) w1 T' rfl X'
  exact ⟨t2, st t2 a1, b1⟩
theorem cV {S : Type} {wd : S → va_W} {σ : S} {Z : S × Option Value} {y : MethodName} {b' : ByteArray} {n' f lo ci index : Nat} {r' : Option FieldType} {As st : List Value} {fs : List Value} {T : u_T} {N : Nat} (hc : Cx cl E A p s m args meth c b n r own) (w : Wd cl E A s.heap H locs (wd σ)) (hM : rC cl l E wd y b' n' r' (rmo f lo) (.ref a :: As) σ Z) (kv : KV y b' n' r' As.length)
    (hl : Cond.methodLink own index y ∈ gt_bl) (q0 : Nat) (he : (wd σ)[q0]? = some (a, .inr (ci, fs))) (hcl : cl[ci]? = some (y.cls, T, N)) (hR : f + 1 ≤ R.frames ∧ 8 + (n' + 11) + lo ≤ R.locals) (hsz : ls.size = n) (hst : st = As.reverse ++ .ref a :: rest) (hcat : (rest.map fun v => v.category).sum ≤ 8) (hf : cells ≤ R.cells ∧ slots ≤ R.slots)
    (hdg : decode b pc = .ok (.invokevirtual index, 3))
    (kk : ∀ (H1 : Heap) (locs1 : List Loc), Wd cl E A s.heap H1 locs1 (wd Z.1) → W p l e R s m args below meth c H1 locs1 cells slots Q (F0 m (pc + 3) ls (Z.2.toList ++ rest))) : W p l e R s m args below meth c H locs cells slots Q (F0 m pc ls st) := by
  subst hst
  refine r_call (a := (Value.ref a :: As).toArray) w (va_runV (As := As) (rest := rest) (C := y.cls) ⟨hc.1, hc.2.1, hc.2.2.1, hc.2.2.2.2.2.1, hc.2.2.2.2.2.2.1⟩ (hM H.size) (cwV As.length hc.2.2.2.2.2.2.1 (gi_V kv hl) rfl rfl rfl ⟨rfl, kv.2.2.2.2⟩ hR) ⟨r_blind, va_recv hc.2.2.2.2.2.2.2.1 w.1 hcl he, r_pre hc w⟩ rfl rfl hsz rfl (lv_room hcat) hdg hf) kk
theorem cS {S : Type} {wd : S → va_W} {σ : S} {Z : S × Option Value} {y : MethodName} {b' : ByteArray} {n' f lo index : Nat} {r' : Option FieldType} {As st : List Value} (hc : Cx cl E A p s m args meth c b n r own) (w : Wd cl E A s.heap H locs (wd σ)) (hM : rC cl l E wd y b' n' r' (rmo f lo) As σ Z) (kv : KS y b' n' r' As.length)
    (hl : Cond.methodLink own index y ∈ gt_bl) (hR : f + 1 ≤ R.frames ∧ 8 + (n' + 11) + lo ≤ R.locals) (hsz : ls.size = n) (hst : st = As.reverse ++ rest) (hcat : (rest.map fun v => v.category).sum ≤ 8) (hf : cells ≤ R.cells ∧ slots ≤ R.slots)
    (hdg : decode b pc = .ok (.invokestatic index, 3))
    (kk : ∀ (H1 : Heap) (locs1 : List Loc), Wd cl E A s.heap H1 locs1 (wd Z.1) → W p l e R s m args below meth c H1 locs1 cells slots Q (F0 m (pc + 3) ls (Z.2.toList ++ rest))) : W p l e R s m args below meth c H locs cells slots Q (F0 m pc ls st) := by
  subst hst
  refine r_call (a := As.toArray) w (va_runS (As := As) (rest := rest) ⟨hc.1, hc.2.1, hc.2.2.1, hc.2.2.2.2.2.1, hc.2.2.2.2.2.2.1⟩ (hM H.size) (va_cwS As.length hc.2.2.2.2.2.2.1 (gi_S kv hl) rfl rfl rfl kv.2.2.2 hR) ⟨r_blind, r_pre hc w⟩ rfl rfl hsz rfl (lv_room hcat) hdg hf) kk
end RB
