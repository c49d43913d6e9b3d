section FR
variable {cl : List vw_C}
variable {p : Program} {l : Launch} {e : Env} {R : Room} {s : State} {m : MethodId} {args : Array Value} {below : List Frame} {meth : Method} {c : Code} {H : Heap} {locs : List Loc} {cells slots : Nat} {Q : State → Prop}
variable {E : Ev} {A : Nat → Prop} {b : ByteArray} {n : Nat} {r : Option FieldType} {own : String} {pc : Nat} {ls : Array Slot} {rest : List Value} {a : Nat} {sa : Nat → Nat} {strs : List (Nat × String)} {wr wc : va_W}
theorem fr_at {k : Nat} {q : Nat × va_E} (h : wc[k]? = some q) : (wr ++ wc)[wr.length + k]? = some q := by
  rw [List.getElem?_append_right (by omega), Nat.add_sub_cancel_left]; exact h
theorem fr_lo {k : Nat} {q : Nat × va_E} (h : wr[k]? = some q) : (wr ++ wc)[k]? = some q := by
  rw [List.getElem?_append_left (List.getElem?_eq_some_iff.mp h).1]; exact h
theorem fr_or {k : Nat} {q : Nat × va_E} (h : (wr ++ wc)[k]? = some q) : (k < wr.length ∧ wr[k]? = some q) ∨ ∃ j, k = wr.length + j ∧ wc[j]? = some q := by
  by_cases hk : k < wr.length
  · rw [List.getElem?_append_left hk] at h; exact Or.inl ⟨hk, h⟩
  · rw [List.getElem?_append_right (by omega)] at h; exact Or.inr ⟨k - wr.length, by omega, h⟩
theorem fr_sub {H0 : Heap} (w : Wd cl E A H0 H locs (wr ++ wc)) : Wd cl E A H0 H locs wc :=
  ⟨fun k q hk => w.1 _ q (fr_at hk), ⟨fun i j x y hi hj e => by have := w.2.1.1 _ _ x y (fr_at hi) (fr_at hj) e; omega, fun k q hk => w.2.1.2 _ q (fr_at hk)⟩, w.2.2.1, w.2.2.2⟩
theorem fr_swap {H0 : Heap} (w : Wd cl E A H0 H locs (wr ++ wc)) : Wd cl E A H0 H locs (wc ++ wr) := by
  refine ⟨fun k q hk => ?_, ⟨fun i j x y hi hj e => ?_, fun k q hk => ?_⟩, w.2.2.1, w.2.2.2⟩
  · rcases fr_or hk with ⟨-, h⟩ | ⟨j, -, h⟩
    · exact w.1 _ q (fr_at h)
    · exact w.1 _ q (fr_lo h)
  · rcases fr_or hi with ⟨h1, h2⟩ | ⟨i', rfl, h2⟩ <;> rcases fr_or hj with ⟨h3, h4⟩ | ⟨j', rfl, h4⟩
    · have := w.2.1.1 _ _ x y (fr_at h2) (fr_at h4) e; omega
    · have := w.2.1.1 _ _ x y (fr_at h2) (fr_lo h4) e; have := (List.getElem?_eq_some_iff.mp h4).1; omega
    · have := w.2.1.1 _ _ x y (fr_lo h2) (fr_at h4) e; have := (List.getElem?_eq_some_iff.mp h2).1; omega
    · have := w.2.1.1 _ _ x y (fr_lo h2) (fr_lo h4) e; omega
  · rcases fr_or hk with ⟨-, h⟩ | ⟨j, -, h⟩
    · exact w.2.1.2 _ q (fr_at h)
    · exact w.2.1.2 _ q (fr_lo h)
theorem fr_back {wc' : va_W} {st0 t T' : State} {L : List Loc} (w0 : Wd cl E A s.heap H locs (wr ++ wc)) (h0 : st0.heap = H) (e1 : T'.heap = t.heap) (hP : va_P E.1 cl wc' t.heap) (hD : va_D (va_A wc H.size) wc') (hF : va_F (va_A wc H.size) st0 t) (hL : ∀ z ∈ L, va_A wc H.size z.base) : Wd cl E A s.heap T'.heap (locs ++ L) (wr ++ wc') := by
  have w1 : Wd cl E A s.heap T'.heap (locs ++ L) wc' := x_back (wd := fun u : va_W => u) (σ := wc) (σ' := wc') (fr_sub w0) h0 e1 hP hD hF hL
  obtain ⟨hz, hk⟩ := hF
  rw [h0] at hz hk
  have out : ∀ (k : Nat) (q : Nat × va_E), wr[k]? = some q → ¬ va_A wc H.size q.1 := by
    intro k q hq h
    rcases h with ⟨j, e, h⟩ | h
    · have h5 := w0.2.1.1 _ _ q (q.1, e) (fr_lo hq) (fr_at h) rfl
      have := (List.getElem?_eq_some_iff.mp hq).1
      omega
    · have := (w0.1 _ q (fr_lo hq)).lt
      omega
  refine ⟨fun k q hk2 => ?_, ⟨fun i j x y hi hj e => ?_, fun k q hk2 => ?_⟩, w1.2.2.1, w1.2.2.2⟩
  · rcases fr_or hk2 with ⟨-, h⟩ | ⟨j, -, h⟩
    · exact (w0.1 _ q (fr_lo h)).kept (by rw [e1]; exact hk q.1 (w0.1 _ q (fr_lo h)).lt (out k q h))
    · exact w1.1 _ q h
  · rcases fr_or hi with ⟨h1, h2⟩ | ⟨i', rfl, h2⟩ <;> rcases fr_or hj with ⟨h3, h4⟩ | ⟨j', rfl, h4⟩
    · exact w0.2.1.1 _ _ x y (fr_lo h2) (fr_lo h4) e
    · exact absurd (by rw [e]; exact hD.2 j' y h4) (out _ x h2)
    · exact absurd (by rw [← e]; exact hD.2 i' x h2) (out _ y h4)
    · have := hD.1 _ _ x y h2 h4 e; omega
  · rcases fr_or hk2 with ⟨-, h⟩ | ⟨j, -, h⟩
    · exact w0.2.1.2 _ q (fr_lo h)
    · exact w1.2.1.2 _ q h
set_option maxHeartbeats 1000000 in
theorem x_cVf {S : Type} {wd : S → va_W} {σ : S} {O : (S × Option Value) ⊕ String} {y : MethodName} {b' : ByteArray} {n' f lo ci index : Nat} {r' : Option FieldType} {As st : List Value} {fs : List Value} {T0 : u_T} {N : Nat} (hc : Cx cl E A p s m args meth c b n r own) (hth : thF sa strs A s s.heap) (w0 : Wd cl E A s.heap H locs (wr ++ wd σ)) (hM : xC cl l E sa strs wd y b' n' r' (rmx f lo) (.ref a :: As) σ O) (kv : KV y b' n' r' As.length)
    (hl : Cond.methodLink own index y ∈ gt_bl) (q0 : Nat) (he : (wd σ)[q0]? = some (a, .inr (ci, fs))) (hcl : cl[ci]? = some (y.cls, T0, N)) (hR : f + 1 ≤ R.frames ∧ 8 + (n' + 11) + lo ≤ R.locals) (hsz : ls.size = n) (hst : st = As.reverse ++ .ref a :: rest) (hcat : (rest.map fun v => v.category).sum ≤ 8) (hf : cells + 1 ≤ R.cells ∧ slots + 6 ≤ R.slots)
    (hdg : decode b pc = .ok (.invokevirtual index, 3))
    (kx : ∀ (X : String) (q : Nat) (ce : Cell) (H1 : Heap) (locs1 : List Loc), O = .inr X → Wd cl E A s.heap H1 locs1 (wr ++ wd σ) → H1[q]? = some ce → ce.vm = .none → s.vm.findClass X = some ce.cls → tW p l e R s m args below meth c H1 locs1 (cells + 1) (slots + 6) Q (F0 m pc ls rest) q)
    (kk : ∀ (Z : S × Option Value) (H1 : Heap) (locs1 : List Loc), O = .inl Z → Wd cl E A s.heap H1 locs1 (wr ++ wd Z.1) → W p l e R s m args below meth c H1 locs1 (cells + 1) (slots + 6) Q (F0 m (pc + 3) ls (Z.2.toList ++ rest))) : W p l e R s m args below meth c H locs cells slots Q (F0 m pc ls st) 
    := by
  have w := fr_sub w0
  subst hst
  intro T hT X
  have hTb := hc.2.2.2.2.2.2.1
  obtain ⟨kc, ki, ks, kin, kd1, kd2, kd3⟩ := kv
  obtain ⟨mk, methM, hnamed, hmethM, hstM, habM⟩ := Cond.instanceMethod_spec (hTb _ ki)
  obtain ⟨methM', cM, hmethM', -, -, -, -, -, -, hsigM⟩ := Cond.code_spec hnamed (hTb _ kc)
  cases hmethM.symm.trans hmethM'
  obtain ⟨cellB, hcB, hoB, hclB⟩ := va_recv hc.2.2.2.2.2.2.2.1 w.1 hcl he
  obtain ⟨c2, r2, m2, q1, q2, q3, q4, kP, hkP, hkPi⟩ := Cond.selects_spec (hTb _ ks)
  cases hclB.symm.trans q1
  cases (State.methodFound?_of_named hnamed ⟨kd1, kd2⟩).symm.trans q2
  cases hnamed.symm.trans q3
  have hselP : selectMethod e.platform s.vm cellB.cls mk = .method mk := by rw [Launch.admits_selectMethod X.admits]; exact q4
  have hlenA : As.length = methM.sig.parameters.length := by
    rw [hsigM] at kd3
    exact (Option.some.inj kd3).symm
  obtain ⟨vm₁, X₁, hstep₁⟩ := X.invokevirtual hc.1 hc.2.2.2.2.2.1 (hTb _ hl) hnamed hmethM hstM hkP hkPi ⟨kd1, kd2⟩ (a := a) (cell := cellB) (by rw [hT]; exact hcB)
    (fun z h => by rw [h] at hoB; cases hoB) hselP hmethM habM hkP hkPi (g := F0 m pc ls (As.reverse ++ .ref a :: rest)) rfl (argsL := As) (rest := rest) hlenA rfl (by rw [hc.2.1]; exact hdg)
  have hws : ∀ w ∈ mws y b' n' r', w.before (Value.ref a :: As).toArray (T.setVm vm₁) = true := by
    intro x hx
    rcases List.mem_cons.mp hx with rfl | h2
    · exact word_at X₁.warmed (gt_good kc) (hTb _ kc)
    · exact word_at X₁.warmed (gt_good h2) (hTb _ h2)
  obtain ⟨o, t, T', L, X', e1, e2, hq, hL, hr⟩ := x_run (g := F0 m pc ls rest) (ig := .invokevirtual index) (len := 3) (av := (Value.ref a :: As).toArray) X₁ (hM H.size) rfl (by rw [hc.2.2.1]; exact hsz) (by rw [hc.2.1]; exact hdg) (lv_room hcat) (X₁.named hnamed) hws (word_at X₁.warmed (gt_good kin) (hTb _ kin)) hR hf (x_pre hc hth w (U := T.setVm vm₁) hT X₁.warmed _ _)
  obtain ⟨hq1, hK1, hF1, -⟩ := hq
  cases O with
  | inl Z =>
    obtain ⟨h1, hP1, hD1⟩ := hq1
    rcases hr with ⟨v, hv, hs⟩ | ⟨q, hv, hs⟩
    · cases hv.symm.trans h1
      have w1 := fr_back w0 (st0 := (T.setVm vm₁).calling (F0 m pc ls rest) mk (Value.ref a :: As).toArray) hT e1 hP1 hD1 hF1 hL
      obtain ⟨t2, a1, b1⟩ := kk Z T'.heap (locs ++ L) rfl w1 T' rfl X'
      exact ⟨t2, hstep₁ _ fun acts => by rw [doInvoke_state]; exact hs.trans a1, b1⟩
    · rw [h1] at hv; cases hv
  | inr Xc =>
    obtain ⟨q, ce, h1, hce, hcv, hcc, hP1, hD1⟩ := hq1
    rcases hr with ⟨v, hv, hs⟩ | ⟨q', hv, hs⟩
    · rw [h1] at hv; cases hv
    · cases hv.symm.trans h1
      have w1 := fr_back w0 (st0 := (T.setVm vm₁).calling (F0 m pc ls rest) mk (Value.ref a :: As).toArray) hT e1 hP1 hD1 hF1 hL
      have hcc2 : s.vm.findClass Xc = some ce.cls := by
        have h9 : (T.setVm vm₁).vm.findClass Xc = some ce.cls := hcc
        rw [X₁.warmed.alike.findClass] at h9
        exact h9
      obtain ⟨t2, a1, b1⟩ := kx Xc q ce T'.heap (locs ++ L) rfl w1 (by rw [e1]; exact hce) hcv hcc2 T' rfl X'
      exact ⟨t2, hstep₁ _ fun acts => by rw [doInvoke_state]; exact hs.trans a1, b1⟩
theorem r_callf {S : Type} {wd : S → va_W} {σ : S} {Z : S × Option Value} {st0 : List Value} {a : Array Value} (w0 : Wd cl E A s.heap H locs (wr ++ wd σ))
    (hr : va_Run p l e R s m args below meth c H locs cells slots 0 0 (F0 m pc ls st0) rest (rQ cl wd E (va_A (wd σ) H.size) Z a) (va_A (wd σ) H.size))
    (kk : ∀ (H1 : Heap) (locs1 : List Loc), Wd cl E A s.heap H1 locs1 (wr ++ wd Z.1) → W p l e R s m args below meth c H1 locs1 cells slots Q (F0 m (pc + 3) ls (Z.2.toList ++ rest))) : W p l e R s m args below meth c H locs cells slots Q (F0 m pc ls st0) := by
  intro T hT X
  have w := fr_sub w0
  have hS := w.2.2.1
  have hF := r_free w
  obtain ⟨v, st₀, t, T', L, h0, X', hL, e1, e2, ⟨⟨hv, hp, hk1, hd⟩, hz, hk⟩, st⟩ := hr T hT X
  cases hv
  rw [h0] at hz hk
  have w1 : Wd cl E A s.heap T'.heap (locs ++ L) (wr ++ wd Z.1) := fr_back w0 (st0 := st₀) h0 e1 hp hd ⟨by rw [h0]; exact hz, by rw [h0]; exact hk⟩ hL
  obtain ⟨t2, a1, b1⟩ := kk T'.heap (locs ++ L) w1 T' rfl X'
  exact ⟨t2, st t2 a1, b1⟩
theorem cVf {S : Type} {wd : S → va_W} {σ : S} {Z : S × Option Value} {y : MethodName} {b' : ByteArray} {n' f lo ci index : Nat} {r' : Option FieldType} {As st : List Value} {fs : List Value} {T : u_T} {N : Nat} (hc : Cx cl E A p s m args meth c b n r own) (w0 : Wd cl E A s.heap H locs (wr ++ wd σ)) (hM : rC cl l E wd y b' n' r' (rmo f lo) (.ref a :: As) σ Z) (kv : KV y b' n' r' As.length)
    (hl : Cond.methodLink own index y ∈ gt_bl) (q0 : Nat) (he : (wd σ)[q0]? = some (a, .inr (ci, fs))) (hcl : cl[ci]? = some (y.cls, T, N)) (hR : f + 1 ≤ R.frames ∧ 8 + (n' + 11) + lo ≤ R.locals) (hsz : ls.size = n) (hst : st = As.reverse ++ .ref a :: rest) (hcat : (rest.map fun v => v.category).sum ≤ 8) (hf : cells ≤ R.cells ∧ slots ≤ R.slots)
    (hdg : decode b pc = .ok (.invokevirtual index, 3))
    (kk : ∀ (H1 : Heap) (locs1 : List Loc), Wd cl E A s.heap H1 locs1 (wr ++ wd Z.1) → W p l e R s m args below meth c H1 locs1 cells slots Q (F0 m (pc + 3) ls (Z.2.toList ++ rest))) : W p l e R s m args below meth c H locs cells slots Q (F0 m pc ls st) := by
  subst hst
  have w := fr_sub w0
  refine r_callf (a := (Value.ref a :: As).toArray) w0 (va_runV (As := As) (rest := rest) (C := y.cls) ⟨hc.1, hc.2.1, hc.2.2.1, hc.2.2.2.2.2.1, hc.2.2.2.2.2.2.1⟩ (hM H.size) (cwV As.length hc.2.2.2.2.2.2.1 (gi_V kv hl) rfl rfl rfl ⟨rfl, kv.2.2.2.2⟩ hR) ⟨r_blind, va_recv hc.2.2.2.2.2.2.2.1 w.1 hcl he, r_pre hc w⟩ rfl rfl hsz rfl (lv_room hcat) hdg hf) kk
theorem cVfI {S : Type} {wd : S → va_W} {σ : S} {y : MethodName} {b' : ByteArray} {n' f lo ci index : Nat} {r' : Option FieldType} {As st : List Value} {fs : List Value} {T : u_T} {N : Nat} {F : S × Int32} (hc : Cx cl E A p s m args meth c b n r own) (w0 : Wd cl E A s.heap H locs (wr ++ wd σ)) (hM : rC cl l E wd y b' n' r' (rmo f lo) (.ref a :: As) σ (zI F)) (kv : KV y b' n' r' As.length) (hl : Cond.methodLink own index y ∈ gt_bl) (q0 : Nat) (he : (wd σ)[q0]? = some (a, .inr (ci, fs))) (hcl : cl[ci]? = some (y.cls, T, N)) (hR : f + 1 ≤ R.frames ∧ 8 + (n' + 11) + lo ≤ R.locals) (hsz : ls.size = n) (hst : st = As.reverse ++ .ref a :: rest) (hcat : (rest.map fun v => v.category).sum ≤ 8) (hf : cells ≤ R.cells ∧ slots ≤ R.slots) (hdg : decode b pc = .ok (.invokevirtual index, 3))
    (kk : ∀ (z : S × Int32) (H1 : Heap) (locs1 : List Loc), F = z → Wd cl E A s.heap H1 locs1 (wr ++ wd z.1) → W p l e R s m args below meth c H1 locs1 cells slots Q (F0 m (pc + 3) ls (.int z.2 :: rest))) : W p l e R s m args below meth c H locs cells slots Q (F0 m pc ls st) :=
  cVf hc w0 hM kv hl q0 he hcl hR hsz hst hcat hf hdg (fun H1 locs1 w1 => kk F H1 locs1 rfl w1)
theorem cVfZ {S : Type} {wd : S → va_W} {σ : S} {y : MethodName} {b' : ByteArray} {n' f lo ci index : Nat} {r' : Option FieldType} {As st : List Value} {fs : List Value} {T : u_T} {N : Nat} {F : S × Bool} (hc : Cx cl E A p s m args meth c b n r own) (w0 : Wd cl E A s.heap H locs (wr ++ wd σ)) (hM : rC cl l E wd y b' n' r' (rmo f lo) (.ref a :: As) σ (zZ F)) (kv : KV y b' n' r' As.length) (hl : Cond.methodLink own index y ∈ gt_bl) (q0 : Nat) (he : (wd σ)[q0]? = some (a, .inr (ci, fs))) (hcl : cl[ci]? = some (y.cls, T, N)) (hR : f + 1 ≤ R.frames ∧ 8 + (n' + 11) + lo ≤ R.locals) (hsz : ls.size = n) (hst : st = As.reverse ++ .ref a :: rest) (hcat : (rest.map fun v => v.category).sum ≤ 8) (hf : cells ≤ R.cells ∧ slots ≤ R.slots) (hdg : decode b pc = .ok (.invokevirtual index, 3))
    (kk : ∀ (z : S × Bool) (H1 : Heap) (locs1 : List Loc), F = z → Wd cl E A s.heap H1 locs1 (wr ++ wd z.1) → W p l e R s m args below meth c H1 locs1 cells slots Q (F0 m (pc + 3) ls (.int (zb z.2) :: rest))) : W p l e R s m args below meth c H locs cells slots Q (F0 m pc ls st) :=
  cVf hc w0 hM kv hl q0 he hcl hR hsz hst hcat hf hdg (fun H1 locs1 w1 => kk F H1 locs1 rfl w1)
theorem cVfL {S : Type} {wd : S → va_W} {σ : S} {y : MethodName} {b' : ByteArray} {n' f lo ci index : Nat} {r' : Option FieldType} {As st : List Value} {fs : List Value} {T : u_T} {N : Nat} {F : S × Int64} (hc : Cx cl E A p s m args meth c b n r own) (w0 : Wd cl E A s.heap H locs (wr ++ wd σ)) (hM : rC cl l E wd y b' n' r' (rmo f lo) (.ref a :: As) σ (zL F)) (kv : KV y b' n' r' As.length) (hl : Cond.methodLink own index y ∈ gt_bl) (q0 : Nat) (he : (wd σ)[q0]? = some (a, .inr (ci, fs))) (hcl : cl[ci]? = some (y.cls, T, N)) (hR : f + 1 ≤ R.frames ∧ 8 + (n' + 11) + lo ≤ R.locals) (hsz : ls.size = n) (hst : st = As.reverse ++ .ref a :: rest) (hcat : (rest.map fun v => v.category).sum ≤ 8) (hf : cells ≤ R.cells ∧ slots ≤ R.slots) (hdg : decode b pc = .ok (.invokevirtual index, 3))
    (kk : ∀ (z : S × Int64) (H1 : Heap) (locs1 : List Loc), F = z → Wd cl E A s.heap H1 locs1 (wr ++ wd z.1) → W p l e R s m args below meth c H1 locs1 cells slots Q (F0 m (pc + 3) ls (.long z.2 :: rest))) : W p l e R s m args below meth c H locs cells slots Q (F0 m pc ls st) :=
  cVf hc w0 hM kv hl q0 he hcl hR hsz hst hcat hf hdg (fun H1 locs1 w1 => kk F H1 locs1 rfl w1)
theorem cVfV {S : Type} {wd : S → va_W} {σ : S} {y : MethodName} {b' : ByteArray} {n' f lo ci index : Nat} {r' : Option FieldType} {As st : List Value} {fs : List Value} {T : u_T} {N : Nat} {F : S} (hc : Cx cl E A p s m args meth c b n r own) (w0 : Wd cl E A s.heap H locs (wr ++ wd σ)) (hM : rC cl l E wd y b' n' r' (rmo f lo) (.ref a :: As) σ (zV F)) (kv : KV y b' n' r' As.length) (hl : Cond.methodLink own index y ∈ gt_bl) (q0 : Nat) (he : (wd σ)[q0]? = some (a, .inr (ci, fs))) (hcl : cl[ci]? = some (y.cls, T, N)) (hR : f + 1 ≤ R.frames ∧ 8 + (n' + 11) + lo ≤ R.locals) (hsz : ls.size = n) (hst : st = As.reverse ++ .ref a :: rest) (hcat : (rest.map fun v => v.category).sum ≤ 8) (hf : cells ≤ R.cells ∧ slots ≤ R.slots) (hdg : decode b pc = .ok (.invokevirtual index, 3))
    (kk : ∀ (z : S) (H1 : Heap) (locs1 : List Loc), F = z → Wd cl E A s.heap H1 locs1 (wr ++ wd z) → W p l e R s m args below meth c H1 locs1 cells slots Q (F0 m (pc + 3) ls (rest))) : W p l e R s m args below meth c H locs cells slots Q (F0 m pc ls st) :=
  cVf hc w0 hM kv hl q0 he hcl hR hsz hst hcat hf hdg (fun H1 locs1 w1 => kk F H1 locs1 rfl w1)
end FR
