section LC
variable {cl : List vw_C}
variable {p : Program} {l : Launch} {e : Env} {R : Room} {s : State} {m : MethodId} {args : Array Value} {below : List Frame} {meth : Method} {c : Code} {H : Heap} {locs : List Loc} {cells slots : Nat} {Q : State → Prop}
variable {E : Ev} {A : Nat → Prop} {b : ByteArray} {n : Nat} {r : Option FieldType} {own : String} {pc : Nat} {ls : Array Slot} {rest : List Value} {a : Nat} {sa : Nat → Nat} {strs : List (Nat × String)} {wr : va_W}
def KW (y : MethodName) (b : ByteArray) (n : Nat) (r : Option FieldType) (hh : List (Nat × Nat × Nat × Nat)) (np : Nat) : Prop :=
  Cond.codeWith y b n r hh ∈ gt_bl ∧ Cond.static y ∈ gt_bl ∧ Cond.initialized y.cls ∈ gt_bl ∧ (y.cls ≠ "java/lang/invoke/MethodHandle" ∧ y.cls ≠ "java/lang/invoke/VarHandle" ∧ (parseMethodDescriptor y.desc).map (fun d => d.parameters.length) = some np)
theorem x_blind {S : Type} {wd : S → va_W} {av : List Value} {σ : S} {sz : Nat} : FrameBlind (xP cl wd E sa strs av σ sz) := by
  intro a U g mk q
  obtain ⟨q0, q1, qP, qK, qD, qX, qT⟩ := q
  exact ⟨q0, q1, qP, va_K.moved (u := U) (U := U.calling g mk a) (Vm.Alike.refl U.vm) qK, qD, qX.at (U := U.calling g mk a) (fun _ _ _ => rfl) (fun _ _ h => h) (Vm.Alike.refl U.vm), qT.at (U := U.calling g mk a) (fun _ _ _ => rfl) (fun _ _ h => h) (State.WarmedH.refl U)⟩
theorem x_pre0 {S : Type} {wd : S → va_W} {σ : S} {av : List Value} (hc : Cx cl E A p s m args meth c b n r own) (hth : thF sa strs A s s.heap) (w : Wd cl E A s.heap H locs (wd σ)) {U : State} (hU : U.heap = H) (hW : s.WarmedH U.vm) : xP cl wd E sa strs av σ H.size av.toArray U := by
  have hF := r_free w
  refine ⟨rfl, by rw [hU], by rw [hU]; exact w.1, va_K.moved hW.alike hc.2.2.2.2.2.2.2.1, w.2.1.weaken (fun _ _ _ _ => trivial), ?_, ?_⟩
  · rw [hU]
    exact hc.2.2.2.2.2.2.2.2.at w.2.2.1.2.1 (fun q _ h => hF q h) hW.alike
  · rw [hU]
    exact hth.at w.2.2.1.2.1 (fun q _ h => hF q h) hW
set_option maxHeartbeats 1000000 in
/-- invokestatic of a method with clauses of its own -/
theorem h_cS {S : Type} {wd : S → va_W} {σ : S} {Z : S × Option Value} {y : MethodName} {b' : ByteArray} {n' f lo index : Nat} {r' : Option FieldType} {hh : List (Nat × Nat × Nat × Nat)} {As st : List Value} (hc : Cx cl E A p s m args meth c b n r own) (hth : thF sa strs A s s.heap) (w0 : Wd cl E A s.heap H locs (wr ++ wd σ)) (hM : hC cl l E sa strs wd y b' n' r' hh (rmx f lo) As σ Z) (kv : KW y b' n' r' hh As.length)
    (hl : Cond.methodLink own index y ∈ gt_bl) (hR : f + 1 ≤ R.frames ∧ 8 + (n' + 11) + lo ≤ R.locals) (hsz : ls.size = n) (hst : st = As.reverse ++ rest) (hcat : (rest.map fun v => v.category).sum ≤ 8) (hf : cells + 1 ≤ R.cells ∧ slots + 6 ≤ R.slots)
    (hdg : decode b pc = .ok (.invokestatic index, 3))
    (kk : ∀ (H1 : Heap) (locs1 : List Loc), Wd cl E A s.heap H1 locs1 (wr ++ wd Z.1) → W p l e R s m args below meth c H1 locs1 (cells + 1) (slots + 6) Q (F0 m (pc + 3) ls (Z.2.toList ++ rest))) : W p l e R s m args below meth c H locs cells slots Q (F0 m pc ls st) := by
  subst hst
  have w := fr_sub w0
  intro T hT X
  have hTb := hc.2.2.2.2.2.2.1
  obtain ⟨kc, ki, kin, kd1, kd2, kd3⟩ := kv
  obtain ⟨mk, methM, cM, hnamed, hmethM, -, -, -, -, -, -, hsigM⟩ := Cond.codeWith_spec (hTb _ kc)
  have hstatic : methM.isStatic = true := Cond.static_spec hnamed hmethM (hTb _ ki)
  obtain ⟨kP, hkP, -⟩ := className_of_methodNamed hnamed
  have hinitP : kP.init = .initialized := Cond.initialized_spec (findClass_of_methodNamed hnamed) hkP (hTb _ kin)
  have hlenA : As.length = methM.sig.parameters.length := by
    rw [hsigM] at kd3
    exact (Option.some.inj kd3).symm
  obtain ⟨vm₁, X₁, hstep₁⟩ := X.invokestatic hc.1 hc.2.2.2.2.2.1 (hTb _ hl) hnamed hmethM hstatic hkP hinitP ⟨kd1, kd2⟩ (g := F0 m pc ls (As.reverse ++ rest)) rfl (argsL := As) (rest := rest) hlenA rfl (by rw [hc.2.1]; exact hdg)
  have hws : ∀ x ∈ mww y b' n' r' hh, ∀ (a' : Array Value) (U : State), s.WarmedH U.vm → x.before a' U = true := by
    intro x hx a' U hW
    rcases List.mem_cons.mp hx with rfl | h2
    · exact word_at hW (gt_good kc) (hTb _ kc)
    · exact word_at hW (gt_good h2) (hTb _ h2)
  have hK : Back l R p e below s args y 3 8 (PreOf R 1 6 (xP cl wd E sa strs As σ H.size)) (PostOf (rQ cl wd E (va_A (wd σ) H.size) Z) 1 6 (va_A (wd σ) H.size)) :=
    va_backW (bytes := b') (maxL := n') (ret := r') (hh := hh) (hM H.size) x_blind rfl rfl hR.1 hR.2 hws List.mem_cons_self (fun a' U hW => word_at hW (gt_good kin) (hTb _ kin))
  obtain ⟨v, ⟨U', l2, c2, s2⟩, X', ⟨g', mk', t, L, e1, e2, hq, h1, hL, h2, h3⟩, hsteps⟩ := hK m meth c ⟨T.setVm vm₁, locs, cells, slots⟩ (F0 m pc ls rest) (.invokestatic index) mk As.toArray X₁ rfl (by rw [hc.2.2.1]; exact hsz) (by rw [hc.2.1]; exact hdg) (lv_room hcat) (X₁.named hnamed) ⟨hf.1, hf.2, x_pre0 hc hth w (U := T.setVm vm₁) hT X₁.warmed⟩
  dsimp only [Pt.U, Pt.locs, Pt.cells, Pt.slots] at X' e1 e2 h1 h2 h3 hsteps
  subst h1; subst h2; subst h3
  obtain ⟨⟨hv, hP1, hK1, hD1⟩, hF1⟩ := hq
  cases hv
  have w1 := fr_back w0 (st0 := (T.setVm vm₁).calling g' mk' As.toArray) hT e1 hP1 hD1 hF1 hL
  obtain ⟨t2, a1, b1⟩ := kk U'.heap (locs ++ L) w1 U' rfl X'
  exact ⟨t2, hstep₁ _ fun acts => by rw [doInvoke_state]; exact hsteps.trans a1, b1⟩
end LC
