theorem nIOA : ¬ nIO = nIA := by decide
theorem ex_chk {σ : XS} {a : Int32} {X : String} (h : f_PM_checkWordAddress σ a = .inr X) : X = nIA ∨ X = nIO := by
  unfold f_PM_checkWordAddress at h
  split at h
  · split at h
    · exact Or.inr (Sum.inr.inj h).symm
    · cases h
  · exact Or.inl (Sum.inr.inj h).symm
theorem ex_chr {σ : XS} {a b : Int32} {X : String} (h : f_PM_checkRegister σ a b = .inr X) : X = nIO := by
  simp only [f_PM_checkRegister, f_PM_checkRegister_14, f_PM_checkRegister_29, f_PM_checkRegister_33, f_PM_checkRegister_34] at h
  repeat' split at h
  all_goals first | exact (Sum.inr.inj h).symm | cases h
theorem ex_stl (fuel : Nat) : ∀ (σ : XS) (a k f : Int32), ∃ z, f_PM_step_26 fuel σ a k f = .inl z := by
  induction fuel with
  | zero => intro σ a k f; exact ⟨_, rfl⟩
  | succ n ih =>
    intro σ a k f
    rw [f_PM_step_26]
    repeat' split
    all_goals first | exact ih _ _ _ _ | exact ⟨_, rfl⟩
theorem oI_r {S : Type} {x : (S × Int32) ⊕ String} {X : String} (h : oI x = .inr X) : x = .inr X := by cases x <;> simp_all [oI]
theorem oI_l {S : Type} {x : (S × Int32) ⊕ String} {Z : S × Option Value} (h : oI x = .inl Z) : ∃ z, x = .inl z ∧ zI z = Z := by cases x <;> simp_all [oI]
theorem oZ_r {S : Type} {x : (S × Bool) ⊕ String} {X : String} (h : oZ x = .inr X) : x = .inr X := by cases x <;> simp_all [oZ]
theorem oZ_l {S : Type} {x : (S × Bool) ⊕ String} {Z : S × Option Value} (h : oZ x = .inl Z) : ∃ z, x = .inl z ∧ zZ z = Z := by cases x <;> simp_all [oZ]
theorem oL_r {S : Type} {x : (S × Int64) ⊕ String} {X : String} (h : oL x = .inr X) : x = .inr X := by cases x <;> simp_all [oL]
theorem oL_l {S : Type} {x : (S × Int64) ⊕ String} {Z : S × Option Value} (h : oL x = .inl Z) : ∃ z, x = .inl z ∧ zL z = Z := by cases x <;> simp_all [oL]
abbrev LuS : Type := XS × (Nat → Int64)
abbrev oC (E : Ev) (oa : Nat) (f : Nat → Int64) : va_W := [(oa, .inl (E.2.1.2.2, 1, .inr (.inl f)))]
abbrev lW (E : Ev) (ad : Nat → Nat) (oa : Nat) (u : LuS) : va_W := oC E oa u.2 ++ xW E ad u.1
abbrev mww (y : MethodName) (b : ByteArray) (n : Nat) (r : Option FieldType) (hh : List (Nat × Nat × Nat × Nat)) : List Cond := .codeWith y b n r hh :: gt_bl
section HC
variable (cl : List vw_C)
/-- the contract of a method with clauses of its own: it makes a cell at most, and throws nothing -/
def hC {S : Type} (l : Launch) (E : Ev) (sa : Nat → Nat) (strs : List (Nat × String)) (wd : S → va_W) (y : MethodName) (b : ByteArray) (n : Nat) (r : Option FieldType) (hh : List (Nat × Nat × Nat × Nat)) (rm : Room) (av : List Value) (σ : S) (Z : S × Option Value) : Prop :=
  ∀ sz : Nat, Met l y (mww y b n r hh) rm (xP cl wd E sa strs av σ sz) (rQ cl wd E (va_A (wd σ) sz) Z) 1 6 (va_A (wd σ) sz)
variable {cl}
theorem hC.of {S : Type} {l : Launch} {E : Ev} {sa : Nat → Nat} {strs : List (Nat × String)} {wd : S → va_W} {y : MethodName} {b : ByteArray} {n : Nat} {r : Option FieldType} {hh : List (Nat × Nat × Nat × Nat)} {f lo : Nat} {av : List Value} {σ : S} {Z : S × Option Value} (hy : plainName y.cls = true) (hav : (lg_sl av).length ≤ n)
    (body : ∀ (p : Program) (e : Env) (s : State) (m : MethodId) (below : List Frame) (meth : Method) (c : Code) (A : Nat → Prop) (ls : Array Slot), Cx cl E A p s m av.toArray meth c b n r y.cls → c.exceptionTable.toList.map (fun h => (h.startPc, h.endPc, h.handlerPc, h.catchType)) = hh → thF sa strs A s s.heap → Wd cl E A s.heap s.heap [] (wd σ) → lv_has ls n (lv_args 0 av) →
      W p l e (rmx f lo) s m av.toArray below meth c s.heap [] 0 0 (MQ below (rQ cl wd E A Z) av.toArray s 1 6 A) (F0 m 0 ls [])) : hC cl l E sa strs wd y b n r hh (rmx f lo) av σ Z := by
  intro sz
  refine va_MetW (cc := b) (maxL := n) (ret := r) (hh := hh) hy rfl ?_
  intro p e s m args below meth c s₁ B hml hv
  obtain ⟨rfl, hsz, hP, hK, hD0, hX, hth⟩ := hv
  have hts := atoms_spec (ws := mww y b n r hh) B.pre
  obtain ⟨m9, meth9, c9, hn9, g1, g2, -, -, g5, -⟩ := Cond.codeWith_spec (hts _ List.mem_cons_self)
  cases B.named.symm.trans hn9
  cases B.method.symm.trans g1
  cases (Stand.of_body B).code.symm.trans g2
  subst hsz
  have hl := lv_entry av (n := n) hav
  rw [lg_entry_eq]
  generalize (lg_sl av ++ List.replicate (n - (lg_sl av).length) Slot.unset).toArray = ls at hl ⊢
  exact body p e s m below meth c (va_A (wd σ) s.heap.size) ls ⟨B.exec, B.bytes, hml, B.returns, B.notSynchronized, findClass_of_methodNamed B.named, fun w h => hts w (List.mem_cons_of_mem _ h), hK, hX⟩ g5 hth ⟨hP, hD0.self, va_S.rf, fun q h => Or.inr h⟩ hl
variable {p : Program} {l : Launch} {e : Env} {R : Room} {s : State} {m : MethodId} {args : Array Value} {below : List Frame} {meth : Method} {c : Code} {H : Heap} {locs : List Loc} {cells slots : Nat} {Q : State → Prop}
variable {E : Ev} {A : Nat → Prop} {b : ByteArray} {n : Nat} {r : Option FieldType} {own : String} {pc : Nat} {ls : Array Slot} {rest : List Value} {a : Nat}
theorem ht_i {S : Type} {wd : S → va_W} {σ' : S} {Z : S × Option Value} {v : Int32} (hc : Cx cl E A p s m args meth c b n (some .int) own) (w : Wd cl E A s.heap H locs (wd σ')) (h1 : cells ≤ 1) (h6 : slots ≤ 6) (hdg : decode b pc = .ok (.ireturn, 1)) (hz : Z = (σ', some (.int v))) :
    W p l e R s m args below meth c H locs cells slots (MQ below (rQ cl wd E A Z) args s 1 6 A) (F0 m pc ls [.int v]) := by
  subst hz
  refine W.widen (k := 1) (n := 6) h1 h6 ?_
  exact W.iret hc.1 hc.2.1 hc.2.2.2.1 (fun t ht hW => ⟨⟨rfl, by rw [ht]; exact w.1, va_K.moved hW.alike hc.2.2.2.2.2.2.2.1, w.2.1⟩, w.2.2.1.F ht⟩) w.2.2.1.2.2 hdg hc.2.2.2.2.1
/-- the answer is kept in the law's own array -/
theorem ls_o {ad : Nat → Nat} {oa : Nat} {σ : XS} {f : Nat → Int64} {v : Int64} (hc : Cx xCl E A p s m args meth c b n r own) (w : Wd xCl E A s.heap H locs (lW E ad oa (σ, f))) (hdg : decode b pc = .ok (.lastore, 1))
    (kk : ∀ (H1 : Heap) (locs1 : List Loc), Wd xCl E A s.heap H1 locs1 (lW E ad oa (σ, vp_updL f 0 v)) → W p l e R s m args below meth c H1 locs1 cells slots Q (F0 m (pc + 1) ls rest)) : W p l e R s m args below meth c H locs cells slots Q (F0 m pc ls (.long v :: .int 0 :: .ref oa :: rest)) :=
  va_last (D := E.1) hc.1 hc.2.1 hc.2.2.2.2.2.2.2.1 w.1 w.2.1 w.2.2.1 0 2 (cA := E.2.1.2.2) (n := 1) (f := f) rfl rfl (by unfold vp_in; decide) hdg (fun H1 locs1 h1 h2 h3 => kk H1 locs1 ⟨h1, h2, h3, w.2.2.2⟩)
end HC
abbrev b_LW_poke : ByteArray := method_3_code
def y_LW_poke : MethodName := ⟨"PageMachineLaw", "poke", "(LPageMachine;II[J)I"⟩
set_option maxRecDepth 20000 in
theorem mc_LW_poke : Cond.codeWith y_LW_poke b_LW_poke 5 (some .int) [(0, 10, 13, 13), (0, 10, 17, 15)] ∈ gt_bl := gt_in (List.mem_of_getElem? (i := 340) rfl) rfl
def h_poke (u : LuS) (a1 : Int32) (a2 : Int32) : LuS × Int32 := match f_PM_poke u.1 a1 a2 with
  | .inl z => ((z.1, vp_updL u.2 0 (Int32.toInt64 z.2)), 0)
  | .inr X => (u, if X = nIA then 1 else 2)
theorem ex_poke {σ : XS} {a1 : Int32} {a2 : Int32} {X : String} (h : f_PM_poke σ a1 a2 = .inr X) : X = nIA ∨ X = nIO := by
  cases hq : f_PM_checkWordAddress σ a1 with
  | inl z =>
    simp only [f_PM_poke, hq, xbind, f_PM_poke_c1, f_PM_poke_c2] at h
    repeat' split at h
    all_goals cases h
  | inr Y =>
    simp only [f_PM_poke, hq, xbind] at h
    cases h
    exact ex_chk hq
theorem d_LW_poke_0 : decode b_LW_poke 0 = .ok (.aload_n 3, 1) := by decide +kernel
theorem d_LW_poke_1 : decode b_LW_poke 1 = .ok (.iconst 0, 1) := by decide +kernel
theorem d_LW_poke_2 : decode b_LW_poke 2 = .ok (.aload_n 0, 1) := by decide +kernel
theorem d_LW_poke_3 : decode b_LW_poke 3 = .ok (.iload_n 1, 1) := by decide +kernel
theorem d_LW_poke_4 : decode b_LW_poke 4 = .ok (.iload_n 2, 1) := by decide +kernel
theorem d_LW_poke_5 : decode b_LW_poke 5 = .ok (.invokevirtual 7, 3) := by decide +kernel
theorem d_LW_poke_8 : decode b_LW_poke 8 = .ok (.i2l, 1) := by decide +kernel
theorem d_LW_poke_9 : decode b_LW_poke 9 = .ok (.lastore, 1) := by decide +kernel
theorem d_LW_poke_10 : decode b_LW_poke 10 = .ok (.goto 11, 3) := by decide +kernel
theorem d_LW_poke_13 : decode b_LW_poke 13 = .ok (.astore 4, 2) := by decide +kernel
theorem d_LW_poke_15 : decode b_LW_poke 15 = .ok (.iconst 1, 1) := by decide +kernel
theorem d_LW_poke_16 : decode b_LW_poke 16 = .ok (.ireturn, 1) := by decide +kernel
theorem d_LW_poke_17 : decode b_LW_poke 17 = .ok (.astore 4, 2) := by decide +kernel
theorem d_LW_poke_19 : decode b_LW_poke 19 = .ok (.iconst 2, 1) := by decide +kernel
theorem d_LW_poke_20 : decode b_LW_poke 20 = .ok (.ireturn, 1) := by decide +kernel
theorem d_LW_poke_21 : decode b_LW_poke 21 = .ok (.iconst 0, 1) := by decide +kernel
theorem d_LW_poke_22 : decode b_LW_poke 22 = .ok (.ireturn, 1) := by decide +kernel
set_option maxHeartbeats 4000000 in
set_option maxRecDepth 100000 in
theorem c_LW_poke (l : Launch) (hfl : l.flags = flags0) (E : Ev) (sa : Nat → Nat) (ad : Nat → Nat) (oa : Nat) (u : LuS) (a1 : Int32) (a2 : Int32) : hC xCl l E sa xstrs (lW E ad oa) y_LW_poke b_LW_poke 5 (some .int) [(0, 10, 13, 13), (0, 10, 17, 15)] (rmx 8 126) [.ref (ad 0), .int a1, .int a2, .ref oa] u (zI (h_poke u a1 a2)) := by
  obtain ⟨σ, f⟩ := u
  refine hC.of (by decide) (Nat.le_of_ble_eq_true rfl) ?_
  intro p e s m below meth c A ls hc hmap hth w hl
  generalize e0 : zI (h_poke (σ, f) a1 a2) = Z
  have hc : Cx xCl E A p s m ([.ref (ad 0), .int a1, .int a2, .ref oa] : List Value).toArray meth c b_LW_poke 5 (some .int) "PageMachineLaw" := hc
  have hx := hc.1
  have hb := hc.2.1
  have hl : lv_has ls 5 [(0, .ref (ad 0)), (1, .int a1), (2, .int a2), (3, .ref oa)] := hl
  refine lv_aload_n hx hb d_LW_poke_0 rfl (lv_at hl 3 rfl) ?_
  refine lv_iconst (v := 0) hx hb d_LW_poke_1 (by decide) ?_
  refine lv_aload_n hx hb d_LW_poke_2 rfl (lv_at hl 0 rfl) ?_
  refine lv_iload_n hx hb d_LW_poke_3 rfl (lv_at hl 1 rfl) ?_
  refine lv_iload_n hx hb d_LW_poke_4 rfl (lv_at hl 2 rfl) ?_
  refine x_cVf (wr := oC E oa f) (rest := [.int 0, .ref oa]) hc hth w (c_PM_poke l hfl E sa ad σ a1 a2) kv_PM_poke mw_276 0 rfl rfl ⟨Nat.le_of_ble_eq_true rfl, Nat.le_of_ble_eq_true rfl⟩ hl.1 rfl (Nat.le_of_ble_eq_true rfl) ⟨Nat.le_of_ble_eq_true rfl, Nat.le_of_ble_eq_true rfl⟩ d_LW_poke_5 (fun X q ce H locs hX w g1 g2 g3 => ?_) (fun Z9 H locs hZ w => ?_)
  · have hX2 := oI_r hX
    rcases ex_poke hX2 with rfl | rfl
    · refine x_catch1 hc hmap (by decide) (by decide) mw_274 (hth.1 _ (List.mem_of_getElem? (i := 353) rfl) rfl) g1 g2 g3 ?_
      refine lv_astore (lv' := [(4, .ref q), (0, .ref (ad 0)), (1, .int a1), (2, .int a2), (3, .ref oa)]) hx hb d_LW_poke_13 hl (by decide) rfl (fun ls hl => ?_)
      refine lv_iconst (v := 1) hx hb d_LW_poke_15 (by decide) ?_
      exact ht_i (σ' := (σ, f)) hc w (Nat.le_of_ble_eq_true rfl) (Nat.le_of_ble_eq_true rfl) d_LW_poke_16 (by rw [← e0]; simp [h_poke, hX2])
    · refine x_catch2 hc hmap (by decide) (by decide) mw_274 hth.2.2.2 (by decide) (by decide) mw_275 (hth.1 _ (List.mem_of_getElem? (i := 425) rfl) rfl) g1 g2 g3 ?_
      refine lv_astore (lv' := [(4, .ref q), (0, .ref (ad 0)), (1, .int a1), (2, .int a2), (3, .ref oa)]) hx hb d_LW_poke_17 hl (by decide) rfl (fun ls hl => ?_)
      refine lv_iconst (v := 2) hx hb d_LW_poke_19 (by decide) ?_
      exact ht_i (σ' := (σ, f)) hc w (Nat.le_of_ble_eq_true rfl) (Nat.le_of_ble_eq_true rfl) d_LW_poke_20 (by rw [← e0]; simp [h_poke, hX2, nIOA])
  · obtain ⟨z, hs, rfl⟩ := oI_l hZ
    have w : Wd xCl E A s.heap H locs (lW E ad oa (z.1, f)) := w
    refine W.eq (g2 := F0 m 8 ls [.int z.2, .int 0, .ref oa]) rfl ?_
    refine lv_i2l hx hb d_LW_poke_8 rfl ?_
    refine ls_o (v := Int32.toInt64 z.2) hc w d_LW_poke_9 (fun H locs w => ?_)
    refine lv_goto (tgt := 21) hx hb d_LW_poke_10 (by decide) ?_
    refine lv_iconst (v := 0) hx hb d_LW_poke_21 (by decide) ?_
    exact ht_i (σ' := (z.1, vp_updL f 0 (Int32.toInt64 z.2))) hc w (Nat.le_of_ble_eq_true rfl) (Nat.le_of_ble_eq_true rfl) d_LW_poke_22 (by rw [← e0]; simp [h_poke, hs])
abbrev b_LW_peek : ByteArray := method_4_code
def y_LW_peek : MethodName := ⟨"PageMachineLaw", "peek", "(LPageMachine;I[J)I"⟩
set_option maxRecDepth 20000 in
theorem mc_LW_peek : Cond.codeWith y_LW_peek b_LW_peek 4 (some .int) [(0, 9, 12, 13), (0, 9, 15, 15)] ∈ gt_bl := gt_in (List.mem_of_getElem? (i := 445) rfl) rfl
def h_peek (u : LuS) (a1 : Int32) : LuS × Int32 := match f_PM_peek u.1 a1 with
  | .inl z => ((z.1, vp_updL u.2 0 (Int32.toInt64 z.2)), 0)
  | .inr X => (u, if X = nIA then 1 else 2)
theorem ex_peek {σ : XS} {a1 : Int32} {X : String} (h : f_PM_peek σ a1 = .inr X) : X = nIA ∨ X = nIO := by
  cases hq : f_PM_checkWordAddress σ a1 with
  | inl z =>
    simp only [f_PM_peek, hq, xbind, f_PM_peek_c1] at h
    repeat' split at h
    all_goals cases h
  | inr Y =>
    simp only [f_PM_peek, hq, xbind] at h
    cases h
    exact ex_chk hq
theorem d_LW_peek_0 : decode b_LW_peek 0 = .ok (.aload_n 2, 1) := by decide +kernel
theorem d_LW_peek_1 : decode b_LW_peek 1 = .ok (.iconst 0, 1) := by decide +kernel
theorem d_LW_peek_2 : decode b_LW_peek 2 = .ok (.aload_n 0, 1) := by decide +kernel
theorem d_LW_peek_3 : decode b_LW_peek 3 = .ok (.iload_n 1, 1) := by decide +kernel
theorem d_LW_peek_4 : decode b_LW_peek 4 = .ok (.invokevirtual 17, 3) := by decide +kernel
theorem d_LW_peek_7 : decode b_LW_peek 7 = .ok (.i2l, 1) := by decide +kernel
theorem d_LW_peek_8 : decode b_LW_peek 8 = .ok (.lastore, 1) := by decide +kernel
theorem d_LW_peek_9 : decode b_LW_peek 9 = .ok (.goto 9, 3) := by decide +kernel
theorem d_LW_peek_12 : decode b_LW_peek 12 = .ok (.astore_n 3, 1) := by decide +kernel
theorem d_LW_peek_13 : decode b_LW_peek 13 = .ok (.iconst 1, 1) := by decide +kernel
theorem d_LW_peek_14 : decode b_LW_peek 14 = .ok (.ireturn, 1) := by decide +kernel
theorem d_LW_peek_15 : decode b_LW_peek 15 = .ok (.astore_n 3, 1) := by decide +kernel
theorem d_LW_peek_16 : decode b_LW_peek 16 = .ok (.iconst 2, 1) := by decide +kernel
theorem d_LW_peek_17 : decode b_LW_peek 17 = .ok (.ireturn, 1) := by decide +kernel
theorem d_LW_peek_18 : decode b_LW_peek 18 = .ok (.iconst 0, 1) := by decide +kernel
theorem d_LW_peek_19 : decode b_LW_peek 19 = .ok (.ireturn, 1) := by decide +kernel
set_option maxHeartbeats 4000000 in
set_option maxRecDepth 100000 in
theorem c_LW_peek (l : Launch) (hfl : l.flags = flags0) (E : Ev) (sa : Nat → Nat) (ad : Nat → Nat) (oa : Nat) (u : LuS) (a1 : Int32) : hC xCl l E sa xstrs (lW E ad oa) y_LW_peek b_LW_peek 4 (some .int) [(0, 9, 12, 13), (0, 9, 15, 15)] (rmx 8 124) [.ref (ad 0), .int a1, .ref oa] u (zI (h_peek u a1)) := by
  obtain ⟨σ, f⟩ := u
  refine hC.of (by decide) (Nat.le_of_ble_eq_true rfl) ?_
  intro p e s m below meth c A ls hc hmap hth w hl
  generalize e0 : zI (h_peek (σ, f) a1) = Z
  have hc : Cx xCl E A p s m ([.ref (ad 0), .int a1, .ref oa] : List Value).toArray meth c b_LW_peek 4 (some .int) "PageMachineLaw" := hc
  have hx := hc.1
  have hb := hc.2.1
  have hl : lv_has ls 4 [(0, .ref (ad 0)), (1, .int a1), (2, .ref oa)] := hl
  refine lv_aload_n hx hb d_LW_peek_0 rfl (lv_at hl 2 rfl) ?_
  refine lv_iconst (v := 0) hx hb d_LW_peek_1 (by decide) ?_
  refine lv_aload_n hx hb d_LW_peek_2 rfl (lv_at hl 0 rfl) ?_
  refine lv_iload_n hx hb d_LW_peek_3 rfl (lv_at hl 1 rfl) ?_
  refine x_cVf (wr := oC E oa f) (rest := [.int 0, .ref oa]) hc hth w (c_PM_peek l hfl E sa ad σ a1) kv_PM_peek mw_379 0 rfl rfl ⟨Nat.le_of_ble_eq_true rfl, Nat.le_of_ble_eq_true rfl⟩ hl.1 rfl (Nat.le_of_ble_eq_true rfl) ⟨Nat.le_of_ble_eq_true rfl, Nat.le_of_ble_eq_true rfl⟩ d_LW_peek_4 (fun X q ce H locs hX w g1 g2 g3 => ?_) (fun Z9 H locs hZ w => ?_)
  · have hX2 := oI_r hX
    rcases ex_peek hX2 with rfl | rfl
    · refine x_catch1 hc hmap (by decide) (by decide) mw_274 (hth.1 _ (List.mem_of_getElem? (i := 353) rfl) rfl) g1 g2 g3 ?_
      refine lv_astore_n (lv' := [(3, .ref q), (0, .ref (ad 0)), (1, .int a1), (2, .ref oa)]) hx hb d_LW_peek_12 rfl hl (by decide) rfl (fun ls hl => ?_)
      refine lv_iconst (v := 1) hx hb d_LW_peek_13 (by decide) ?_
      exact ht_i (σ' := (σ, f)) hc w (Nat.le_of_ble_eq_true rfl) (Nat.le_of_ble_eq_true rfl) d_LW_peek_14 (by rw [← e0]; simp [h_peek, hX2])
    · refine x_catch2 hc hmap (by decide) (by decide) mw_274 hth.2.2.2 (by decide) (by decide) mw_275 (hth.1 _ (List.mem_of_getElem? (i := 425) rfl) rfl) g1 g2 g3 ?_
      refine lv_astore_n (lv' := [(3, .ref q), (0, .ref (ad 0)), (1, .int a1), (2, .ref oa)]) hx hb d_LW_peek_15 rfl hl (by decide) rfl (fun ls hl => ?_)
      refine lv_iconst (v := 2) hx hb d_LW_peek_16 (by decide) ?_
      exact ht_i (σ' := (σ, f)) hc w (Nat.le_of_ble_eq_true rfl) (Nat.le_of_ble_eq_true rfl) d_LW_peek_17 (by rw [← e0]; simp [h_peek, hX2, nIOA])
  · obtain ⟨z, hs, rfl⟩ := oI_l hZ
    have w : Wd xCl E A s.heap H locs (lW E ad oa (z.1, f)) := w
    refine W.eq (g2 := F0 m 7 ls [.int z.2, .int 0, .ref oa]) rfl ?_
    refine lv_i2l hx hb d_LW_peek_7 rfl ?_
    refine ls_o (v := Int32.toInt64 z.2) hc w d_LW_peek_8 (fun H locs w => ?_)
    refine lv_goto (tgt := 18) hx hb d_LW_peek_9 (by decide) ?_
    refine lv_iconst (v := 0) hx hb d_LW_peek_18 (by decide) ?_
    exact ht_i (σ' := (z.1, vp_updL f 0 (Int32.toInt64 z.2))) hc w (Nat.le_of_ble_eq_true rfl) (Nat.le_of_ble_eq_true rfl) d_LW_peek_19 (by rw [← e0]; simp [h_peek, hs])
abbrev b_LW_set : ByteArray := method_5_code
def y_LW_set : MethodName := ⟨"PageMachineLaw", "set", "(LPageMachine;III)I"⟩
set_option maxRecDepth 20000 in
theorem mc_LW_set : Cond.codeWith y_LW_set b_LW_set 5 (some .int) [(0, 7, 10, 15)] ∈ gt_bl := gt_in (List.mem_of_getElem? (i := 452) rfl) rfl
def h_set (u : LuS) (a1 : Int32) (a2 : Int32) (a3 : Int32) : LuS × Int32 := match f_PM_set u.1 a1 a2 a3 with
  | .inl z => ((z, u.2), 0)
  | .inr X => (u, 1)
theorem ex_set {σ : XS} {a1 : Int32} {a2 : Int32} {a3 : Int32} {X : String} (h : f_PM_set σ a1 a2 a3 = .inr X) : X = nIO := by
  cases hq : f_PM_checkRegister σ a1 a2 with
  | inl z =>
    simp only [f_PM_set, hq, xbind, f_PM_set_c1, f_PM_set_c2, f_PM_set_c3, f_PM_set_c4, f_PM_set_c5, f_PM_set_c6] at h
    repeat' split at h
    all_goals cases h
  | inr Y =>
    simp only [f_PM_set, hq, xbind] at h
    cases h
    exact ex_chr hq
theorem d_LW_set_0 : decode b_LW_set 0 = .ok (.aload_n 0, 1) := by decide +kernel
theorem d_LW_set_1 : decode b_LW_set 1 = .ok (.iload_n 1, 1) := by decide +kernel
theorem d_LW_set_2 : decode b_LW_set 2 = .ok (.iload_n 2, 1) := by decide +kernel
theorem d_LW_set_3 : decode b_LW_set 3 = .ok (.iload_n 3, 1) := by decide +kernel
theorem d_LW_set_4 : decode b_LW_set 4 = .ok (.invokevirtual 21, 3) := by decide +kernel
theorem d_LW_set_7 : decode b_LW_set 7 = .ok (.goto 7, 3) := by decide +kernel
theorem d_LW_set_10 : decode b_LW_set 10 = .ok (.astore 4, 2) := by decide +kernel
theorem d_LW_set_12 : decode b_LW_set 12 = .ok (.iconst 1, 1) := by decide +kernel
theorem d_LW_set_13 : decode b_LW_set 13 = .ok (.ireturn, 1) := by decide +kernel
theorem d_LW_set_14 : decode b_LW_set 14 = .ok (.iconst 0, 1) := by decide +kernel
theorem d_LW_set_15 : decode b_LW_set 15 = .ok (.ireturn, 1) := by decide +kernel
set_option maxHeartbeats 4000000 in
set_option maxRecDepth 100000 in
theorem c_LW_set (l : Launch) (hfl : l.flags = flags0) (E : Ev) (sa : Nat → Nat) (ad : Nat → Nat) (oa : Nat) (u : LuS) (a1 : Int32) (a2 : Int32) (a3 : Int32) : hC xCl l E sa xstrs (lW E ad oa) y_LW_set b_LW_set 5 (some .int) [(0, 7, 10, 15)] (rmx 8 127) [.ref (ad 0), .int a1, .int a2, .int a3] u (zI (h_set u a1 a2 a3)) := by
  obtain ⟨σ, f⟩ := u
  refine hC.of (by decide) (Nat.le_of_ble_eq_true rfl) ?_
  intro p e s m below meth c A ls hc hmap hth w hl
  generalize e0 : zI (h_set (σ, f) a1 a2 a3) = Z
  have hc : Cx xCl E A p s m ([.ref (ad 0), .int a1, .int a2, .int a3] : List Value).toArray meth c b_LW_set 5 (some .int) "PageMachineLaw" := hc
  have hx := hc.1
  have hb := hc.2.1
  have hl : lv_has ls 5 [(0, .ref (ad 0)), (1, .int a1), (2, .int a2), (3, .int a3)] := hl
  refine lv_aload_n hx hb d_LW_set_0 rfl (lv_at hl 0 rfl) ?_
  refine lv_iload_n hx hb d_LW_set_1 rfl (lv_at hl 1 rfl) ?_
  refine lv_iload_n hx hb d_LW_set_2 rfl (lv_at hl 2 rfl) ?_
  refine lv_iload_n hx hb d_LW_set_3 rfl (lv_at hl 3 rfl) ?_
  refine x_cVf (wr := oC E oa f) (rest := []) hc hth w (c_PM_set l hfl E sa ad σ a1 a2 a3) kv_PM_set mw_386 0 rfl rfl ⟨Nat.le_of_ble_eq_true rfl, Nat.le_of_ble_eq_true rfl⟩ hl.1 rfl (Nat.le_of_ble_eq_true rfl) ⟨Nat.le_of_ble_eq_true rfl, Nat.le_of_ble_eq_true rfl⟩ d_LW_set_4 (fun X q ce H locs hX w g1 g2 g3 => ?_) (fun Z9 H locs hZ w => ?_)
  · have hX2 := oV_r hX
    obtain rfl := ex_set hX2
    refine x_catch1 hc hmap (by decide) (by decide) mw_275 (hth.1 _ (List.mem_of_getElem? (i := 425) rfl) rfl) g1 g2 g3 ?_
    refine lv_astore (lv' := [(4, .ref q), (0, .ref (ad 0)), (1, .int a1), (2, .int a2), (3, .int a3)]) hx hb d_LW_set_10 hl (by decide) rfl (fun ls hl => ?_)
    refine lv_iconst (v := 1) hx hb d_LW_set_12 (by decide) ?_
    exact ht_i (σ' := (σ, f)) hc w (Nat.le_of_ble_eq_true rfl) (Nat.le_of_ble_eq_true rfl) d_LW_set_13 (by rw [← e0]; simp [h_set, hX2])
  · obtain ⟨z, hs, rfl⟩ := oV_l hZ
    have w : Wd xCl E A s.heap H locs (lW E ad oa (z, f)) := w
    refine W.eq (g2 := F0 m 7 ls []) rfl ?_
    refine lv_goto (tgt := 14) hx hb d_LW_set_7 (by decide) ?_
    refine lv_iconst (v := 0) hx hb d_LW_set_14 (by decide) ?_
    exact ht_i (σ' := (z, f)) hc w (Nat.le_of_ble_eq_true rfl) (Nat.le_of_ble_eq_true rfl) d_LW_set_15 (by rw [← e0]; simp [h_set, hs])
abbrev b_LW_get : ByteArray := method_6_code
def y_LW_get : MethodName := ⟨"PageMachineLaw", "get", "(LPageMachine;II[J)I"⟩
set_option maxRecDepth 20000 in
theorem mc_LW_get : Cond.codeWith y_LW_get b_LW_get 5 (some .int) [(0, 10, 13, 15)] ∈ gt_bl := gt_in (List.mem_of_getElem? (i := 477) rfl) rfl
def h_get (u : LuS) (a1 : Int32) (a2 : Int32) : LuS × Int32 := match f_PM_get u.1 a1 a2 with
  | .inl z => ((z.1, vp_updL u.2 0 (Int32.toInt64 z.2)), 0)
  | .inr X => (u, 1)
theorem ex_get {σ : XS} {a1 : Int32} {a2 : Int32} {X : String} (h : f_PM_get σ a1 a2 = .inr X) : X = nIO := by
  cases hq : f_PM_checkRegister σ a1 a2 with
  | inl z =>
    simp only [f_PM_get, hq, xbind, f_PM_get_c1] at h
    repeat' split at h
    all_goals cases h
  | inr Y =>
    simp only [f_PM_get, hq, xbind] at h
    cases h
    exact ex_chr hq
theorem d_LW_get_0 : decode b_LW_get 0 = .ok (.aload_n 3, 1) := by decide +kernel
theorem d_LW_get_1 : decode b_LW_get 1 = .ok (.iconst 0, 1) := by decide +kernel
theorem d_LW_get_2 : decode b_LW_get 2 = .ok (.aload_n 0, 1) := by decide +kernel
theorem d_LW_get_3 : decode b_LW_get 3 = .ok (.iload_n 1, 1) := by decide +kernel
theorem d_LW_get_4 : decode b_LW_get 4 = .ok (.iload_n 2, 1) := by decide +kernel
theorem d_LW_get_5 : decode b_LW_get 5 = .ok (.invokevirtual 25, 3) := by decide +kernel
theorem d_LW_get_8 : decode b_LW_get 8 = .ok (.i2l, 1) := by decide +kernel
theorem d_LW_get_9 : decode b_LW_get 9 = .ok (.lastore, 1) := by decide +kernel
theorem d_LW_get_10 : decode b_LW_get 10 = .ok (.goto 7, 3) := by decide +kernel
theorem d_LW_get_13 : decode b_LW_get 13 = .ok (.astore 4, 2) := by decide +kernel
theorem d_LW_get_15 : decode b_LW_get 15 = .ok (.iconst 1, 1) := by decide +kernel
theorem d_LW_get_16 : decode b_LW_get 16 = .ok (.ireturn, 1) := by decide +kernel
theorem d_LW_get_17 : decode b_LW_get 17 = .ok (.iconst 0, 1) := by decide +kernel
theorem d_LW_get_18 : decode b_LW_get 18 = .ok (.ireturn, 1) := by decide +kernel
set_option maxHeartbeats 4000000 in
set_option maxRecDepth 100000 in
theorem c_LW_get (l : Launch) (hfl : l.flags = flags0) (E : Ev) (sa : Nat → Nat) (ad : Nat → Nat) (oa : Nat) (u : LuS) (a1 : Int32) (a2 : Int32) : hC xCl l E sa xstrs (lW E ad oa) y_LW_get b_LW_get 5 (some .int) [(0, 10, 13, 15)] (rmx 8 126) [.ref (ad 0), .int a1, .int a2, .ref oa] u (zI (h_get u a1 a2)) := by
  obtain ⟨σ, f⟩ := u
  refine hC.of (by decide) (Nat.le_of_ble_eq_true rfl) ?_
  intro p e s m below meth c A ls hc hmap hth w hl
  generalize e0 : zI (h_get (σ, f) a1 a2) = Z
  have hc : Cx xCl E A p s m ([.ref (ad 0), .int a1, .int a2, .ref oa] : List Value).toArray meth c b_LW_get 5 (some .int) "PageMachineLaw" := hc
  have hx := hc.1
  have hb := hc.2.1
  have hl : lv_has ls 5 [(0, .ref (ad 0)), (1, .int a1), (2, .int a2), (3, .ref oa)] := hl
  refine lv_aload_n hx hb d_LW_get_0 rfl (lv_at hl 3 rfl) ?_
  refine lv_iconst (v := 0) hx hb d_LW_get_1 (by decide) ?_
  refine lv_aload_n hx hb d_LW_get_2 rfl (lv_at hl 0 rfl) ?_
  refine lv_iload_n hx hb d_LW_get_3 rfl (lv_at hl 1 rfl) ?_
  refine lv_iload_n hx hb d_LW_get_4 rfl (lv_at hl 2 rfl) ?_
  refine x_cVf (wr := oC E oa f) (rest := [.int 0, .ref oa]) hc hth w (c_PM_get l hfl E sa ad σ a1 a2) kv_PM_get mw_411 0 rfl rfl ⟨Nat.le_of_ble_eq_true rfl, Nat.le_of_ble_eq_true rfl⟩ hl.1 rfl (Nat.le_of_ble_eq_true rfl) ⟨Nat.le_of_ble_eq_true rfl, Nat.le_of_ble_eq_true rfl⟩ d_LW_get_5 (fun X q ce H locs hX w g1 g2 g3 => ?_) (fun Z9 H locs hZ w => ?_)
  · have hX2 := oI_r hX
    obtain rfl := ex_get hX2
    refine x_catch1 hc hmap (by decide) (by decide) mw_275 (hth.1 _ (List.mem_of_getElem? (i := 425) rfl) rfl) g1 g2 g3 ?_
    refine lv_astore (lv' := [(4, .ref q), (0, .ref (ad 0)), (1, .int a1), (2, .int a2), (3, .ref oa)]) hx hb d_LW_get_13 hl (by decide) rfl (fun ls hl => ?_)
    refine lv_iconst (v := 1) hx hb d_LW_get_15 (by decide) ?_
    exact ht_i (σ' := (σ, f)) hc w (Nat.le_of_ble_eq_true rfl) (Nat.le_of_ble_eq_true rfl) d_LW_get_16 (by rw [← e0]; simp [h_get, hX2])
  · obtain ⟨z, hs, rfl⟩ := oI_l hZ
    have w : Wd xCl E A s.heap H locs (lW E ad oa (z.1, f)) := w
    refine W.eq (g2 := F0 m 8 ls [.int z.2, .int 0, .ref oa]) rfl ?_
    refine lv_i2l hx hb d_LW_get_8 rfl ?_
    refine ls_o (v := Int32.toInt64 z.2) hc w d_LW_get_9 (fun H locs w => ?_)
    refine lv_goto (tgt := 17) hx hb d_LW_get_10 (by decide) ?_
    refine lv_iconst (v := 0) hx hb d_LW_get_17 (by decide) ?_
    exact ht_i (σ' := (z.1, vp_updL f 0 (Int32.toInt64 z.2))) hc w (Nat.le_of_ble_eq_true rfl) (Nat.le_of_ble_eq_true rfl) d_LW_get_18 (by rw [← e0]; simp [h_get, hs])
abbrev b_LW_line : ByteArray := method_7_code
def y_LW_line : MethodName := ⟨"PageMachineLaw", "line", "(LPageMachine;IZ[J)I"⟩
set_option maxRecDepth 20000 in
theorem mc_LW_line : Cond.codeWith y_LW_line b_LW_line 5 (some .int) [(0, 17, 20, 15)] ∈ gt_bl := gt_in (List.mem_of_getElem? (i := 493) rfl) rfl
def h_line (u : LuS) (a1 : Int32) (a2 : Bool) : LuS × Int32 := match f_PM_line u.1 a1 a2 with
  | .inl z => ((z.1, vp_updL u.2 0 ((if zb z.2 = 0 then (0 : Int64) else 1))), 0)
  | .inr X => (u, 1)
theorem ex_line {σ : XS} {a1 : Int32} {a2 : Bool} {X : String} (h : f_PM_line σ a1 a2 = .inr X) : X = nIO := by
  simp only [f_PM_line, f_PM_line_10, f_PM_line_c1] at h
  repeat' split at h
  all_goals first | exact (Sum.inr.inj h).symm | cases h
theorem d_LW_line_0 : decode b_LW_line 0 = .ok (.aload_n 3, 1) := by decide +kernel
theorem d_LW_line_1 : decode b_LW_line 1 = .ok (.iconst 0, 1) := by decide +kernel
theorem d_LW_line_2 : decode b_LW_line 2 = .ok (.aload_n 0, 1) := by decide +kernel
theorem d_LW_line_3 : decode b_LW_line 3 = .ok (.iload_n 1, 1) := by decide +kernel
theorem d_LW_line_4 : decode b_LW_line 4 = .ok (.iload_n 2, 1) := by decide +kernel
theorem d_LW_line_5 : decode b_LW_line 5 = .ok (.invokevirtual 28, 3) := by decide +kernel
theorem d_LW_line_8 : decode b_LW_line 8 = .ok (.ifCond .eq 7, 3) := by decide +kernel
theorem d_LW_line_11 : decode b_LW_line 11 = .ok (.lconst 1, 1) := by decide +kernel
theorem d_LW_line_12 : decode b_LW_line 12 = .ok (.goto 4, 3) := by decide +kernel
theorem d_LW_line_15 : decode b_LW_line 15 = .ok (.lconst 0, 1) := by decide +kernel
theorem d_LW_line_16 : decode b_LW_line 16 = .ok (.lastore, 1) := by decide +kernel
theorem d_LW_line_17 : decode b_LW_line 17 = .ok (.goto 7, 3) := by decide +kernel
theorem d_LW_line_20 : decode b_LW_line 20 = .ok (.astore 4, 2) := by decide +kernel
theorem d_LW_line_22 : decode b_LW_line 22 = .ok (.iconst 1, 1) := by decide +kernel
theorem d_LW_line_23 : decode b_LW_line 23 = .ok (.ireturn, 1) := by decide +kernel
theorem d_LW_line_24 : decode b_LW_line 24 = .ok (.iconst 0, 1) := by decide +kernel
theorem d_LW_line_25 : decode b_LW_line 25 = .ok (.ireturn, 1) := by decide +kernel
set_option maxHeartbeats 4000000 in
set_option maxRecDepth 100000 in
theorem c_LW_line (l : Launch) (hfl : l.flags = flags0) (E : Ev) (sa : Nat → Nat) (ad : Nat → Nat) (oa : Nat) (u : LuS) (a1 : Int32) (a2 : Bool) : hC xCl l E sa xstrs (lW E ad oa) y_LW_line b_LW_line 5 (some .int) [(0, 17, 20, 15)] (rmx 7 104) [.ref (ad 0), .int a1, .int (zb a2), .ref oa] u (zI (h_line u a1 a2)) := by
  obtain ⟨σ, f⟩ := u
  refine hC.of (by decide) (Nat.le_of_ble_eq_true rfl) ?_
  intro p e s m below meth c A ls hc hmap hth w hl
  generalize e0 : zI (h_line (σ, f) a1 a2) = Z
  have hc : Cx xCl E A p s m ([.ref (ad 0), .int a1, .int (zb a2), .ref oa] : List Value).toArray meth c b_LW_line 5 (some .int) "PageMachineLaw" := hc
  have hx := hc.1
  have hb := hc.2.1
  have hl : lv_has ls 5 [(0, .ref (ad 0)), (1, .int a1), (2, .int (zb a2)), (3, .ref oa)] := hl
  refine lv_aload_n hx hb d_LW_line_0 rfl (lv_at hl 3 rfl) ?_
  refine lv_iconst (v := 0) hx hb d_LW_line_1 (by decide) ?_
  refine lv_aload_n hx hb d_LW_line_2 rfl (lv_at hl 0 rfl) ?_
  refine lv_iload_n hx hb d_LW_line_3 rfl (lv_at hl 1 rfl) ?_
  refine lv_iload_n hx hb d_LW_line_4 rfl (lv_at hl 2 rfl) ?_
  refine x_cVf (wr := oC E oa f) (rest := [.int 0, .ref oa]) hc hth w (c_PM_line l hfl E sa ad σ a1 a2) kv_PM_line mw_427 0 rfl rfl ⟨Nat.le_of_ble_eq_true rfl, Nat.le_of_ble_eq_true rfl⟩ hl.1 rfl (Nat.le_of_ble_eq_true rfl) ⟨Nat.le_of_ble_eq_true rfl, Nat.le_of_ble_eq_true rfl⟩ d_LW_line_5 (fun X q ce H locs hX w g1 g2 g3 => ?_) (fun Z9 H locs hZ w => ?_)
  · have hX2 := oZ_r hX
    obtain rfl := ex_line hX2
    refine x_catch1 hc hmap (by decide) (by decide) mw_275 (hth.1 _ (List.mem_of_getElem? (i := 425) rfl) rfl) g1 g2 g3 ?_
    refine lv_astore (lv' := [(4, .ref q), (0, .ref (ad 0)), (1, .int a1), (2, .int (zb a2)), (3, .ref oa)]) hx hb d_LW_line_20 hl (by decide) rfl (fun ls hl => ?_)
    refine lv_iconst (v := 1) hx hb d_LW_line_22 (by decide) ?_
    exact ht_i (σ' := (σ, f)) hc w (Nat.le_of_ble_eq_true rfl) (Nat.le_of_ble_eq_true rfl) d_LW_line_23 (by rw [← e0]; simp [h_line, hX2])
  · obtain ⟨z, hs, rfl⟩ := oZ_l hZ
    have w : Wd xCl E A s.heap H locs (lW E ad oa (z.1, f)) := w
    refine W.eq (g2 := F0 m 8 ls [.int (zb z.2), .int 0, .ref oa]) rfl ?_
    refine lv_if_eq (tgt := 15) hx hb d_LW_line_8 (by decide) (fun q8 => ?_) (fun q8 => ?_)
    · refine lv_lconst (v := 0) hx hb d_LW_line_15 (by decide) ?_
      refine ls_o (v := 0) hc w d_LW_line_16 (fun H locs w => ?_)
      refine lv_goto (tgt := 24) hx hb d_LW_line_17 (by decide) ?_
      refine lv_iconst (v := 0) hx hb d_LW_line_24 (by decide) ?_
      exact ht_i (σ' := (z.1, vp_updL f 0 (0))) hc w (Nat.le_of_ble_eq_true rfl) (Nat.le_of_ble_eq_true rfl) d_LW_line_25 (by rw [← e0]; simp [h_line, hs, q8])
    · refine lv_lconst (v := 1) hx hb d_LW_line_11 (by decide) ?_
      refine lv_goto (tgt := 16) hx hb d_LW_line_12 (by decide) ?_
      refine ls_o (v := 1) hc w d_LW_line_16 (fun H locs w => ?_)
      refine lv_goto (tgt := 24) hx hb d_LW_line_17 (by decide) ?_
      refine lv_iconst (v := 0) hx hb d_LW_line_24 (by decide) ?_
      exact ht_i (σ' := (z.1, vp_updL f 0 (1))) hc w (Nat.le_of_ble_eq_true rfl) (Nat.le_of_ble_eq_true rfl) d_LW_line_25 (by rw [← e0]; simp [h_line, hs, q8])
abbrev b_LW_step : ByteArray := method_8_code
def y_LW_step : MethodName := ⟨"PageMachineLaw", "step", "(LPageMachine;I[J)I"⟩
set_option maxRecDepth 20000 in
theorem mc_LW_step : Cond.codeWith y_LW_step b_LW_step 4 (some .int) [(0, 9, 12, 13)] ∈ gt_bl := gt_in (List.mem_of_getElem? (i := 505) rfl) rfl
def h_step (u : LuS) (a1 : Int32) : LuS × Int32 := match f_PM_step u.1 a1 with
  | .inl z => ((z.1, vp_updL u.2 0 (Int32.toInt64 z.2)), 0)
  | .inr X => (u, 1)
theorem ex_step {σ : XS} {a1 : Int32} {X : String} (h : f_PM_step σ a1 = .inr X) : X = nIA := by
  simp only [f_PM_step, f_PM_step_12] at h
  split at h
  · exact (Sum.inr.inj h).symm
  · split at h
    · obtain ⟨z, hz⟩ := ex_stl (a1.toNatClampNeg + 1) σ a1 0 0
      rw [hz] at h; cases h
    · exact (Sum.inr.inj h).symm
theorem d_LW_step_0 : decode b_LW_step 0 = .ok (.aload_n 2, 1) := by decide +kernel
theorem d_LW_step_1 : decode b_LW_step 1 = .ok (.iconst 0, 1) := by decide +kernel
theorem d_LW_step_2 : decode b_LW_step 2 = .ok (.aload_n 0, 1) := by decide +kernel
theorem d_LW_step_3 : decode b_LW_step 3 = .ok (.iload_n 1, 1) := by decide +kernel
theorem d_LW_step_4 : decode b_LW_step 4 = .ok (.invokevirtual 32, 3) := by decide +kernel
theorem d_LW_step_7 : decode b_LW_step 7 = .ok (.i2l, 1) := by decide +kernel
theorem d_LW_step_8 : decode b_LW_step 8 = .ok (.lastore, 1) := by decide +kernel
theorem d_LW_step_9 : decode b_LW_step 9 = .ok (.goto 6, 3) := by decide +kernel
theorem d_LW_step_12 : decode b_LW_step 12 = .ok (.astore_n 3, 1) := by decide +kernel
theorem d_LW_step_13 : decode b_LW_step 13 = .ok (.iconst 1, 1) := by decide +kernel
theorem d_LW_step_14 : decode b_LW_step 14 = .ok (.ireturn, 1) := by decide +kernel
theorem d_LW_step_15 : decode b_LW_step 15 = .ok (.iconst 0, 1) := by decide +kernel
theorem d_LW_step_16 : decode b_LW_step 16 = .ok (.ireturn, 1) := by decide +kernel
set_option maxHeartbeats 4000000 in
set_option maxRecDepth 100000 in
theorem c_LW_step (l : Launch) (hfl : l.flags = flags0) (E : Ev) (sa : Nat → Nat) (ad : Nat → Nat) (oa : Nat) (u : LuS) (a1 : Int32) : hC xCl l E sa xstrs (lW E ad oa) y_LW_step b_LW_step 4 (some .int) [(0, 9, 12, 13)] (rmx 8 187) [.ref (ad 0), .int a1, .ref oa] u (zI (h_step u a1)) := by
  obtain ⟨σ, f⟩ := u
  refine hC.of (by decide) (Nat.le_of_ble_eq_true rfl) ?_
  intro p e s m below meth c A ls hc hmap hth w hl
  generalize e0 : zI (h_step (σ, f) a1) = Z
  have hc : Cx xCl E A p s m ([.ref (ad 0), .int a1, .ref oa] : List Value).toArray meth c b_LW_step 4 (some .int) "PageMachineLaw" := hc
  have hx := hc.1
  have hb := hc.2.1
  have hl : lv_has ls 4 [(0, .ref (ad 0)), (1, .int a1), (2, .ref oa)] := hl
  refine lv_aload_n hx hb d_LW_step_0 rfl (lv_at hl 2 rfl) ?_
  refine lv_iconst (v := 0) hx hb d_LW_step_1 (by decide) ?_
  refine lv_aload_n hx hb d_LW_step_2 rfl (lv_at hl 0 rfl) ?_
  refine lv_iload_n hx hb d_LW_step_3 rfl (lv_at hl 1 rfl) ?_
  refine x_cVf (wr := oC E oa f) (rest := [.int 0, .ref oa]) hc hth w (c_PM_step l hfl E sa ad σ a1) kv_PM_step mw_439 0 rfl rfl ⟨Nat.le_of_ble_eq_true rfl, Nat.le_of_ble_eq_true rfl⟩ hl.1 rfl (Nat.le_of_ble_eq_true rfl) ⟨Nat.le_of_ble_eq_true rfl, Nat.le_of_ble_eq_true rfl⟩ d_LW_step_4 (fun X q ce H locs hX w g1 g2 g3 => ?_) (fun Z9 H locs hZ w => ?_)
  · have hX2 := oI_r hX
    obtain rfl := ex_step hX2
    refine x_catch1 hc hmap (by decide) (by decide) mw_274 (hth.1 _ (List.mem_of_getElem? (i := 353) rfl) rfl) g1 g2 g3 ?_
    refine lv_astore_n (lv' := [(3, .ref q), (0, .ref (ad 0)), (1, .int a1), (2, .ref oa)]) hx hb d_LW_step_12 rfl hl (by decide) rfl (fun ls hl => ?_)
    refine lv_iconst (v := 1) hx hb d_LW_step_13 (by decide) ?_
    exact ht_i (σ' := (σ, f)) hc w (Nat.le_of_ble_eq_true rfl) (Nat.le_of_ble_eq_true rfl) d_LW_step_14 (by rw [← e0]; simp [h_step, hX2])
  · obtain ⟨z, hs, rfl⟩ := oI_l hZ
    have w : Wd xCl E A s.heap H locs (lW E ad oa (z.1, f)) := w
    refine W.eq (g2 := F0 m 7 ls [.int z.2, .int 0, .ref oa]) rfl ?_
    refine lv_i2l hx hb d_LW_step_7 rfl ?_
    refine ls_o (v := Int32.toInt64 z.2) hc w d_LW_step_8 (fun H locs w => ?_)
    refine lv_goto (tgt := 15) hx hb d_LW_step_9 (by decide) ?_
    refine lv_iconst (v := 0) hx hb d_LW_step_15 (by decide) ?_
    exact ht_i (σ' := (z.1, vp_updL f 0 (Int32.toInt64 z.2))) hc w (Nat.le_of_ble_eq_true rfl) (Nat.le_of_ble_eq_true rfl) d_LW_step_16 (by rw [← e0]; simp [h_step, hs])
abbrev b_LW_entry : ByteArray := method_9_code
def y_LW_entry : MethodName := ⟨"PageMachineLaw", "entry", "(LPageMachine;II[J)I"⟩
set_option maxRecDepth 20000 in
theorem mc_LW_entry : Cond.codeWith y_LW_entry b_LW_entry 5 (some .int) [(0, 10, 13, 15)] ∈ gt_bl := gt_in (List.mem_of_getElem? (i := 906) rfl) rfl
def h_entry (u : LuS) (a1 : Int32) (a2 : Int32) : LuS × Int32 := match f_PM_entry u.1 a1 a2 with
  | .inl z => ((z.1, vp_updL u.2 0 (Int32.toInt64 z.2)), 0)
  | .inr X => (u, 1)
theorem ex_entry {σ : XS} {a1 : Int32} {a2 : Int32} {X : String} (h : f_PM_entry σ a1 a2 = .inr X) : X = nIO := by
  simp only [f_PM_entry, f_PM_entry_19] at h
  repeat' split at h
  all_goals first | exact (Sum.inr.inj h).symm | cases h
theorem d_LW_entry_0 : decode b_LW_entry 0 = .ok (.aload_n 3, 1) := by decide +kernel
theorem d_LW_entry_1 : decode b_LW_entry 1 = .ok (.iconst 0, 1) := by decide +kernel
theorem d_LW_entry_2 : decode b_LW_entry 2 = .ok (.aload_n 0, 1) := by decide +kernel
theorem d_LW_entry_3 : decode b_LW_entry 3 = .ok (.iload_n 1, 1) := by decide +kernel
theorem d_LW_entry_4 : decode b_LW_entry 4 = .ok (.iload_n 2, 1) := by decide +kernel
theorem d_LW_entry_5 : decode b_LW_entry 5 = .ok (.invokevirtual 35, 3) := by decide +kernel
theorem d_LW_entry_8 : decode b_LW_entry 8 = .ok (.i2l, 1) := by decide +kernel
theorem d_LW_entry_9 : decode b_LW_entry 9 = .ok (.lastore, 1) := by decide +kernel
theorem d_LW_entry_10 : decode b_LW_entry 10 = .ok (.goto 7, 3) := by decide +kernel
theorem d_LW_entry_13 : decode b_LW_entry 13 = .ok (.astore 4, 2) := by decide +kernel
theorem d_LW_entry_15 : decode b_LW_entry 15 = .ok (.iconst 1, 1) := by decide +kernel
theorem d_LW_entry_16 : decode b_LW_entry 16 = .ok (.ireturn, 1) := by decide +kernel
theorem d_LW_entry_17 : decode b_LW_entry 17 = .ok (.iconst 0, 1) := by decide +kernel
theorem d_LW_entry_18 : decode b_LW_entry 18 = .ok (.ireturn, 1) := by decide +kernel
set_option maxHeartbeats 4000000 in
set_option maxRecDepth 100000 in
theorem c_LW_entry (l : Launch) (hfl : l.flags = flags0) (E : Ev) (sa : Nat → Nat) (ad : Nat → Nat) (oa : Nat) (u : LuS) (a1 : Int32) (a2 : Int32) : hC xCl l E sa xstrs (lW E ad oa) y_LW_entry b_LW_entry 5 (some .int) [(0, 10, 13, 15)] (rmx 7 104) [.ref (ad 0), .int a1, .int a2, .ref oa] u (zI (h_entry u a1 a2)) := by
  obtain ⟨σ, f⟩ := u
  refine hC.of (by decide) (Nat.le_of_ble_eq_true rfl) ?_
  intro p e s m below meth c A ls hc hmap hth w hl
  generalize e0 : zI (h_entry (σ, f) a1 a2) = Z
  have hc : Cx xCl E A p s m ([.ref (ad 0), .int a1, .int a2, .ref oa] : List Value).toArray meth c b_LW_entry 5 (some .int) "PageMachineLaw" := hc
  have hx := hc.1
  have hb := hc.2.1
  have hl : lv_has ls 5 [(0, .ref (ad 0)), (1, .int a1), (2, .int a2), (3, .ref oa)] := hl
  refine lv_aload_n hx hb d_LW_entry_0 rfl (lv_at hl 3 rfl) ?_
  refine lv_iconst (v := 0) hx hb d_LW_entry_1 (by decide) ?_
  refine lv_aload_n hx hb d_LW_entry_2 rfl (lv_at hl 0 rfl) ?_
  refine lv_iload_n hx hb d_LW_entry_3 rfl (lv_at hl 1 rfl) ?_
  refine lv_iload_n hx hb d_LW_entry_4 rfl (lv_at hl 2 rfl) ?_
  refine x_cVf (wr := oC E oa f) (rest := [.int 0, .ref oa]) hc hth w (c_PM_entry l hfl E sa ad σ a1 a2) kv_PM_entry mw_840 0 rfl rfl ⟨Nat.le_of_ble_eq_true rfl, Nat.le_of_ble_eq_true rfl⟩ hl.1 rfl (Nat.le_of_ble_eq_true rfl) ⟨Nat.le_of_ble_eq_true rfl, Nat.le_of_ble_eq_true rfl⟩ d_LW_entry_5 (fun X q ce H locs hX w g1 g2 g3 => ?_) (fun Z9 H locs hZ w => ?_)
  · have hX2 := oI_r hX
    obtain rfl := ex_entry hX2
    refine x_catch1 hc hmap (by decide) (by decide) mw_275 (hth.1 _ (List.mem_of_getElem? (i := 425) rfl) rfl) g1 g2 g3 ?_
    refine lv_astore (lv' := [(4, .ref q), (0, .ref (ad 0)), (1, .int a1), (2, .int a2), (3, .ref oa)]) hx hb d_LW_entry_13 hl (by decide) rfl (fun ls hl => ?_)
    refine lv_iconst (v := 1) hx hb d_LW_entry_15 (by decide) ?_
    exact ht_i (σ' := (σ, f)) hc w (Nat.le_of_ble_eq_true rfl) (Nat.le_of_ble_eq_true rfl) d_LW_entry_16 (by rw [← e0]; simp [h_entry, hX2])
  · obtain ⟨z, hs, rfl⟩ := oI_l hZ
    have w : Wd xCl E A s.heap H locs (lW E ad oa (z.1, f)) := w
    refine W.eq (g2 := F0 m 8 ls [.int z.2, .int 0, .ref oa]) rfl ?_
    refine lv_i2l hx hb d_LW_entry_8 rfl ?_
    refine ls_o (v := Int32.toInt64 z.2) hc w d_LW_entry_9 (fun H locs w => ?_)
    refine lv_goto (tgt := 17) hx hb d_LW_entry_10 (by decide) ?_
    refine lv_iconst (v := 0) hx hb d_LW_entry_17 (by decide) ?_
    exact ht_i (σ' := (z.1, vp_updL f 0 (Int32.toInt64 z.2))) hc w (Nat.le_of_ble_eq_true rfl) (Nat.le_of_ble_eq_true rfl) d_LW_entry_18 (by rw [← e0]; simp [h_entry, hs])
abbrev b_LW_translate : ByteArray := method_10_code
def y_LW_translate : MethodName := ⟨"PageMachineLaw", "translate", "(LPageMachine;II[J)I"⟩
set_option maxRecDepth 20000 in
theorem mc_LW_translate : Cond.codeWith y_LW_translate b_LW_translate 5 (some .int) [(0, 9, 12, 13)] ∈ gt_bl := gt_in (List.mem_of_getElem? (i := 918) rfl) rfl
def h_translate (u : LuS) (a1 : Int32) (a2 : Int32) : LuS × Int32 := match f_PM_translate u.1 a1 a2 with
  | .inl z => ((z.1, vp_updL u.2 0 (z.2)), 0)
  | .inr X => (u, 1)
theorem ex_translate {σ : XS} {a1 : Int32} {a2 : Int32} {X : String} (h : f_PM_translate σ a1 a2 = .inr X) : X = nIA := by
  simp only [f_PM_translate, f_PM_translate_19, f_PM_translate_57] at h
  repeat' split at h
  all_goals first | exact (Sum.inr.inj h).symm | cases h
theorem d_LW_translate_0 : decode b_LW_translate 0 = .ok (.aload_n 3, 1) := by decide +kernel
theorem d_LW_translate_1 : decode b_LW_translate 1 = .ok (.iconst 0, 1) := by decide +kernel
theorem d_LW_translate_2 : decode b_LW_translate 2 = .ok (.aload_n 0, 1) := by decide +kernel
theorem d_LW_translate_3 : decode b_LW_translate 3 = .ok (.iload_n 1, 1) := by decide +kernel
theorem d_LW_translate_4 : decode b_LW_translate 4 = .ok (.iload_n 2, 1) := by decide +kernel
theorem d_LW_translate_5 : decode b_LW_translate 5 = .ok (.invokevirtual 38, 3) := by decide +kernel
theorem d_LW_translate_8 : decode b_LW_translate 8 = .ok (.lastore, 1) := by decide +kernel
theorem d_LW_translate_9 : decode b_LW_translate 9 = .ok (.goto 7, 3) := by decide +kernel
theorem d_LW_translate_12 : decode b_LW_translate 12 = .ok (.astore 4, 2) := by decide +kernel
theorem d_LW_translate_14 : decode b_LW_translate 14 = .ok (.iconst 1, 1) := by decide +kernel
theorem d_LW_translate_15 : decode b_LW_translate 15 = .ok (.ireturn, 1) := by decide +kernel
theorem d_LW_translate_16 : decode b_LW_translate 16 = .ok (.iconst 0, 1) := by decide +kernel
theorem d_LW_translate_17 : decode b_LW_translate 17 = .ok (.ireturn, 1) := by decide +kernel
set_option maxHeartbeats 4000000 in
set_option maxRecDepth 100000 in
theorem c_LW_translate (l : Launch) (hfl : l.flags = flags0) (E : Ev) (sa : Nat → Nat) (ad : Nat → Nat) (oa : Nat) (u : LuS) (a1 : Int32) (a2 : Int32) : hC xCl l E sa xstrs (lW E ad oa) y_LW_translate b_LW_translate 5 (some .int) [(0, 9, 12, 13)] (rmx 7 107) [.ref (ad 0), .int a1, .int a2, .ref oa] u (zI (h_translate u a1 a2)) := by
  obtain ⟨σ, f⟩ := u
  refine hC.of (by decide) (Nat.le_of_ble_eq_true rfl) ?_
  intro p e s m below meth c A ls hc hmap hth w hl
  generalize e0 : zI (h_translate (σ, f) a1 a2) = Z
  have hc : Cx xCl E A p s m ([.ref (ad 0), .int a1, .int a2, .ref oa] : List Value).toArray meth c b_LW_translate 5 (some .int) "PageMachineLaw" := hc
  have hx := hc.1
  have hb := hc.2.1
  have hl : lv_has ls 5 [(0, .ref (ad 0)), (1, .int a1), (2, .int a2), (3, .ref oa)] := hl
  refine lv_aload_n hx hb d_LW_translate_0 rfl (lv_at hl 3 rfl) ?_
  refine lv_iconst (v := 0) hx hb d_LW_translate_1 (by decide) ?_
  refine lv_aload_n hx hb d_LW_translate_2 rfl (lv_at hl 0 rfl) ?_
  refine lv_iload_n hx hb d_LW_translate_3 rfl (lv_at hl 1 rfl) ?_
  refine lv_iload_n hx hb d_LW_translate_4 rfl (lv_at hl 2 rfl) ?_
  refine x_cVf (wr := oC E oa f) (rest := [.int 0, .ref oa]) hc hth w (c_PM_translate l hfl E sa ad σ a1 a2) kv_PM_translate mw_852 0 rfl rfl ⟨Nat.le_of_ble_eq_true rfl, Nat.le_of_ble_eq_true rfl⟩ hl.1 rfl (Nat.le_of_ble_eq_true rfl) ⟨Nat.le_of_ble_eq_true rfl, Nat.le_of_ble_eq_true rfl⟩ d_LW_translate_5 (fun X q ce H locs hX w g1 g2 g3 => ?_) (fun Z9 H locs hZ w => ?_)
  · have hX2 := oL_r hX
    obtain rfl := ex_translate hX2
    refine x_catch1 hc hmap (by decide) (by decide) mw_274 (hth.1 _ (List.mem_of_getElem? (i := 353) rfl) rfl) g1 g2 g3 ?_
    refine lv_astore (lv' := [(4, .ref q), (0, .ref (ad 0)), (1, .int a1), (2, .int a2), (3, .ref oa)]) hx hb d_LW_translate_12 hl (by decide) rfl (fun ls hl => ?_)
    refine lv_iconst (v := 1) hx hb d_LW_translate_14 (by decide) ?_
    exact ht_i (σ' := (σ, f)) hc w (Nat.le_of_ble_eq_true rfl) (Nat.le_of_ble_eq_true rfl) d_LW_translate_15 (by rw [← e0]; simp [h_translate, hX2])
  · obtain ⟨z, hs, rfl⟩ := oL_l hZ
    have w : Wd xCl E A s.heap H locs (lW E ad oa (z.1, f)) := w
    refine W.eq (g2 := F0 m 8 ls [.long z.2, .int 0, .ref oa]) rfl ?_
    refine ls_o (v := z.2) hc w d_LW_translate_8 (fun H locs w => ?_)
    refine lv_goto (tgt := 16) hx hb d_LW_translate_9 (by decide) ?_
    refine lv_iconst (v := 0) hx hb d_LW_translate_16 (by decide) ?_
    exact ht_i (σ' := (z.1, vp_updL f 0 (z.2))) hc w (Nat.le_of_ble_eq_true rfl) (Nat.le_of_ble_eq_true rfl) d_LW_translate_17 (by rw [← e0]; simp [h_translate, hs])
abbrev b_LW_count : ByteArray := method_11_code
def y_LW_count : MethodName := ⟨"PageMachineLaw", "count", "(LPageMachine;I[J)I"⟩
set_option maxRecDepth 20000 in
theorem mc_LW_count : Cond.codeWith y_LW_count b_LW_count 4 (some .int) [(0, 9, 12, 15)] ∈ gt_bl := gt_in (List.mem_of_getElem? (i := 930) rfl) rfl
def h_count (u : LuS) (a1 : Int32) : LuS × Int32 := match f_PM_count u.1 a1 with
  | .inl z => ((z.1, vp_updL u.2 0 (Int32.toInt64 z.2)), 0)
  | .inr X => (u, 1)
theorem ex_count {σ : XS} {a1 : Int32} {X : String} (h : f_PM_count σ a1 = .inr X) : X = nIO := by
  simp only [f_PM_count, f_PM_count_10] at h
  repeat' split at h
  all_goals first | exact (Sum.inr.inj h).symm | cases h
theorem d_LW_count_0 : decode b_LW_count 0 = .ok (.aload_n 2, 1) := by decide +kernel
theorem d_LW_count_1 : decode b_LW_count 1 = .ok (.iconst 0, 1) := by decide +kernel
theorem d_LW_count_2 : decode b_LW_count 2 = .ok (.aload_n 0, 1) := by decide +kernel
theorem d_LW_count_3 : decode b_LW_count 3 = .ok (.iload_n 1, 1) := by decide +kernel
theorem d_LW_count_4 : decode b_LW_count 4 = .ok (.invokevirtual 42, 3) := by decide +kernel
theorem d_LW_count_7 : decode b_LW_count 7 = .ok (.i2l, 1) := by decide +kernel
theorem d_LW_count_8 : decode b_LW_count 8 = .ok (.lastore, 1) := by decide +kernel
theorem d_LW_count_9 : decode b_LW_count 9 = .ok (.goto 6, 3) := by decide +kernel
theorem d_LW_count_12 : decode b_LW_count 12 = .ok (.astore_n 3, 1) := by decide +kernel
theorem d_LW_count_13 : decode b_LW_count 13 = .ok (.iconst 1, 1) := by decide +kernel
theorem d_LW_count_14 : decode b_LW_count 14 = .ok (.ireturn, 1) := by decide +kernel
theorem d_LW_count_15 : decode b_LW_count 15 = .ok (.iconst 0, 1) := by decide +kernel
theorem d_LW_count_16 : decode b_LW_count 16 = .ok (.ireturn, 1) := by decide +kernel
set_option maxHeartbeats 4000000 in
set_option maxRecDepth 100000 in
theorem c_LW_count (l : Launch) (hfl : l.flags = flags0) (E : Ev) (sa : Nat → Nat) (ad : Nat → Nat) (oa : Nat) (u : LuS) (a1 : Int32) : hC xCl l E sa xstrs (lW E ad oa) y_LW_count b_LW_count 4 (some .int) [(0, 9, 12, 15)] (rmx 7 103) [.ref (ad 0), .int a1, .ref oa] u (zI (h_count u a1)) := by
  obtain ⟨σ, f⟩ := u
  refine hC.of (by decide) (Nat.le_of_ble_eq_true rfl) ?_
  intro p e s m below meth c A ls hc hmap hth w hl
  generalize e0 : zI (h_count (σ, f) a1) = Z
  have hc : Cx xCl E A p s m ([.ref (ad 0), .int a1, .ref oa] : List Value).toArray meth c b_LW_count 4 (some .int) "PageMachineLaw" := hc
  have hx := hc.1
  have hb := hc.2.1
  have hl : lv_has ls 4 [(0, .ref (ad 0)), (1, .int a1), (2, .ref oa)] := hl
  refine lv_aload_n hx hb d_LW_count_0 rfl (lv_at hl 2 rfl) ?_
  refine lv_iconst (v := 0) hx hb d_LW_count_1 (by decide) ?_
  refine lv_aload_n hx hb d_LW_count_2 rfl (lv_at hl 0 rfl) ?_
  refine lv_iload_n hx hb d_LW_count_3 rfl (lv_at hl 1 rfl) ?_
  refine x_cVf (wr := oC E oa f) (rest := [.int 0, .ref oa]) hc hth w (c_PM_count l hfl E sa ad σ a1) kv_PM_count mw_864 0 rfl rfl ⟨Nat.le_of_ble_eq_true rfl, Nat.le_of_ble_eq_true rfl⟩ hl.1 rfl (Nat.le_of_ble_eq_true rfl) ⟨Nat.le_of_ble_eq_true rfl, Nat.le_of_ble_eq_true rfl⟩ d_LW_count_4 (fun X q ce H locs hX w g1 g2 g3 => ?_) (fun Z9 H locs hZ w => ?_)
  · have hX2 := oI_r hX
    obtain rfl := ex_count hX2
    refine x_catch1 hc hmap (by decide) (by decide) mw_275 (hth.1 _ (List.mem_of_getElem? (i := 425) rfl) rfl) g1 g2 g3 ?_
    refine lv_astore_n (lv' := [(3, .ref q), (0, .ref (ad 0)), (1, .int a1), (2, .ref oa)]) hx hb d_LW_count_12 rfl hl (by decide) rfl (fun ls hl => ?_)
    refine lv_iconst (v := 1) hx hb d_LW_count_13 (by decide) ?_
    exact ht_i (σ' := (σ, f)) hc w (Nat.le_of_ble_eq_true rfl) (Nat.le_of_ble_eq_true rfl) d_LW_count_14 (by rw [← e0]; simp [h_count, hX2])
  · obtain ⟨z, hs, rfl⟩ := oI_l hZ
    have w : Wd xCl E A s.heap H locs (lW E ad oa (z.1, f)) := w
    refine W.eq (g2 := F0 m 7 ls [.int z.2, .int 0, .ref oa]) rfl ?_
    refine lv_i2l hx hb d_LW_count_7 rfl ?_
    refine ls_o (v := Int32.toInt64 z.2) hc w d_LW_count_8 (fun H locs w => ?_)
    refine lv_goto (tgt := 15) hx hb d_LW_count_9 (by decide) ?_
    refine lv_iconst (v := 0) hx hb d_LW_count_15 (by decide) ?_
    exact ht_i (σ' := (z.1, vp_updL f 0 (Int32.toInt64 z.2))) hc w (Nat.le_of_ble_eq_true rfl) (Nat.le_of_ble_eq_true rfl) d_LW_count_16 (by rw [← e0]; simp [h_count, hs])
