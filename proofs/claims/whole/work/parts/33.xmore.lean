abbrev oI {S : Type} (x : (S × Int32) ⊕ String) : (S × Option Value) ⊕ String := match x with | .inl z => .inl (zI z) | .inr e => .inr e
abbrev oZ {S : Type} (x : (S × Bool) ⊕ String) : (S × Option Value) ⊕ String := match x with | .inl z => .inl (zZ z) | .inr e => .inr e
abbrev oL {S : Type} (x : (S × Int64) ⊕ String) : (S × Option Value) ⊕ String := match x with | .inl z => .inl (zL z) | .inr e => .inr e
abbrev oV {S : Type} (x : S ⊕ String) : (S × Option Value) ⊕ String := match x with | .inl z => .inl (zV z) | .inr e => .inr e
abbrev xbind {S T : Type} (x : S ⊕ String) (f : S → T ⊕ String) : T ⊕ String := match x with | .inl z => f z | .inr e => .inr e
theorem oV_r {S : Type} {x : S ⊕ String} {X : String} (h : oV x = .inr X) : x = .inr X := by cases x <;> simp_all [oV]
theorem oV_l {S : Type} {x : S ⊕ String} {Z : S × Option Value} (h : oV x = .inl Z) : ∃ z, x = .inl z ∧ zV z = Z := by cases x <;> simp_all [oV]
def xstrs : List (Nat × String) := [(169, "4 does not divide the address"), (175, "no memory there"), (177, "no such register"), (98, "no such line"), (109, "steps are 1 .. 20000"), (116, "no such entry or part of one"), (130, "how is 0 or 1"), (153, "no such count")]
def rC0 (l : Launch) (y : MethodName) (b : ByteArray) (n : Nat) (r : Option FieldType) (rm : Room) (av : List Value) (v : Value) : Prop := Met l y (mws y b n r) rm (fun a _ => a = av.toArray) (fun _ st oc t => oc = .returned (some v) ∧ t.heap = st.heap) 0 0 (fun _ => False)
section XM
variable {cl : List vw_C} {p : Program} {l : Launch} {e : Env} {R : Room} {s : State} {m : MethodId} {args : Array Value} {below : List Frame} {meth : Method} {c : Code} {H : Heap} {locs : List Loc} {cells slots : Nat} {Q : State → Prop}
variable {E : Ev} {A : Nat → Prop} {b : ByteArray} {n : Nat} {r : Option FieldType} {own : String} {pc : Nat} {ls : Array Slot} {rest : List Value} {a : Nat}
/-- a call that leaves the heap as it is -/
theorem cV0 {S : Type} {wd : S → va_W} {σ : S} {v : Value} {y : MethodName} {b' : ByteArray} {n' f lo ci index : Nat} {r' : Option FieldType} {As st : List Value} {fs : List Value} {T : u_T} {N : Nat} (hc : Cx cl E A p s m args meth c b n r own) (w : Wd cl E A s.heap H locs (wd σ)) (hM : rC0 l y b' n' r' (rmo f lo) (.ref a :: As) v) (kv : KV y b' n' r' As.length)
    (hl : Cond.methodLink own index y ∈ gt_bl) (q0 : Nat) (he : (wd σ)[q0]? = some (a, .inr (ci, fs))) (hcl : cl[ci]? = some (y.cls, T, N)) (hR : f + 1 ≤ R.frames ∧ 8 + (n' + 11) + lo ≤ R.locals) (hsz : ls.size = n) (hst : st = As.reverse ++ .ref a :: rest) (hcat : (rest.map fun v => v.category).sum ≤ 8) (hf : cells ≤ R.cells ∧ slots ≤ R.slots)
    (hdg : decode b pc = .ok (.invokevirtual index, 3))
    (kk : W p l e R s m args below meth c H locs cells slots Q (F0 m (pc + 3) ls (v :: rest))) : W p l e R s m args below meth c H locs cells slots Q (F0 m pc ls st) := by
  subst hst
  have hr := va_runV (p := p) (l := l) (e := e) (R := R) (s := s) (m := m) (args := args) (below := below) (meth := meth) (c := c) (H := H) (locs := locs) (cells := cells) (slots := slots) (g := F0 m pc ls (As.reverse ++ .ref a :: rest)) (As := As) (rest := rest) (C := y.cls) ⟨hc.1, hc.2.1, hc.2.2.1, hc.2.2.2.2.2.1, hc.2.2.2.2.2.2.1⟩ hM (cwV As.length hc.2.2.2.2.2.2.1 (gi_V kv hl) rfl rfl rfl ⟨rfl, kv.2.2.2.2⟩ hR) ⟨fun _ _ _ _ h => h, va_recv hc.2.2.2.2.2.2.2.1 w.1 hcl he, fun _ _ _ => rfl⟩ rfl rfl hsz rfl (lv_room hcat) hdg hf
  intro T hT X
  obtain ⟨v2, st₀, t, T', L, h0, X', hL, e1, e2, ⟨hv, hh⟩, st⟩ := hr T hT X
  cases hv
  have hL0 : L = [] := by
    cases L with
    | nil => rfl
    | cons z L => exact absurd (hL z List.mem_cons_self) id
  subst hL0
  rw [List.append_nil] at X'
  obtain ⟨t2, a1, b1⟩ := kk T' (by rw [e1, hh, h0]) X'
  exact ⟨t2, st t2 a1, b1⟩
end XM
set_option maxHeartbeats 1000000 in
set_option maxRecDepth 100000 in
theorem c0_ME_has (l : Launch) (E : Ev) (ad : Nat → Nat) (σ : XS) (a1 : Int64) : rC0 l y_ME_has b_ME_has 3 (some .boolean) (rmo 0 0) [.ref (ad 1), .long a1] (.int (zb (f_ME_has σ a1))) := by
  refine Met.ofW (cc := b_ME_has) (maxL := 3) (ret := some .boolean) (by decide) rfl ?_
  intro p e s m args below meth c s₁ B hml hv
  have hv : args = ([.ref (ad 1), .long a1] : List Value).toArray := hv
  subst hv
  have hx := B.exec
  have hb := B.bytes
  have hr := B.returns
  have hlocks := B.notSynchronized
  have ho : s.vm.findClass "PageMachine$Memory" = some m.cls := findClass_of_methodNamed B.named
  have hts := atoms_spec (ws := mws y_ME_has b_ME_has 3 (some .boolean)) B.pre
  have hT : ∀ w ∈ gt_bl, w.before _ s = true := fun w h => hts w (List.mem_cons_of_mem _ h)
  have hl := lv_entry ([.ref (ad 1), .long a1] : List Value) (n := 3) (Nat.le_of_ble_eq_true rfl)
  rw [lg_entry_eq]
  generalize (lg_sl ([.ref (ad 1), .long a1] : List Value) ++ List.replicate (3 - (lg_sl ([.ref (ad 1), .long a1] : List Value)).length) Slot.unset).toArray = ls at hl ⊢
  have hl : lv_has ls 3 [(0, .ref (ad 1)), (1, .long a1)] := hl
  refine lv_lload_n hx hb d_ME_has_0 rfl (lv_at hl 1 rfl) ?_
  refine lv_lconst (v := 0) hx hb d_ME_has_1 (by decide) ?_
  refine W.lcmp hx hb d_ME_has_2 ?_
  refine lv_if_lt (tgt := 18) hx hb d_ME_has_3 (by decide) (fun q3 => ?_) (fun q3 => ?_)
  · refine lv_iconst (v := 0) hx hb d_ME_has_18 (by decide) ?_
    exact W.zret (v := zb false) hx hb hr (zb_n false) (fun t ht hW => ⟨by rw [f_ME_has, if_pos q3], ht⟩) (fun q h => nomatch h) d_ME_has_19 hlocks
  · refine lv_lload_n hx hb d_ME_has_6 rfl (lv_at hl 1 rfl) ?_
    refine lv_ldc2 (v := 262144) hx hb ho (hT _ mw_355) d_ME_has_7 ?_
    refine W.lcmp hx hb d_ME_has_10 ?_
    refine lv_if_ge (tgt := 18) hx hb d_ME_has_11 (by decide) (fun q11 => ?_) (fun q11 => ?_)
    · refine lv_iconst (v := 0) hx hb d_ME_has_18 (by decide) ?_
      exact W.zret (v := zb false) hx hb hr (zb_n false) (fun t ht hW => ⟨by rw [f_ME_has, if_neg q3, if_pos q11], ht⟩) (fun q h => nomatch h) d_ME_has_19 hlocks
    · refine lv_iconst (v := 1) hx hb d_ME_has_14 (by decide) ?_
      refine lv_goto (tgt := 19) hx hb d_ME_has_15 (by decide) ?_
      exact W.zret (v := zb true) hx hb hr (zb_n true) (fun t ht hW => ⟨by rw [f_ME_has, if_neg q3, if_neg q11], ht⟩) (fun q h => nomatch h) d_ME_has_19 hlocks
