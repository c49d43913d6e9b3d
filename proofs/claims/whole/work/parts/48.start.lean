theorem fl_in {args : Array Value} {s : State} {w : Cond} (h : (Jvm.Cond.and given_1 narrow_1).before args s = true) (hw : w ∈ flatC (Jvm.Cond.and given_1 narrow_1)) : w.before args s = true := flat_of_before _ h w hw
theorem st_ref {args : Array Value} {s : State} {t : Term} (h : (Cond.exactly t "java/lang/String").before args s = true) : ∃ a, t.eval args s none [] s = some (.ref a) := by
  cases hv : t.eval args s none [] s with
  | none => simp [Cond.before, Cond.holds, Cond.value, hv] at h
  | some v =>
    cases v with
    | ref a => exact ⟨a, rfl⟩
    | null => cases hf : s.vm.findClass "java/lang/String" <;> simp [Cond.before, Cond.holds, Cond.value, hv, hf] at h
    | _ => simp [Cond.before, Cond.holds, Cond.value, hv] at h
set_option maxRecDepth 20000 in
theorem fl_wbI {args : Array Value} {s : State} (h : (Jvm.Cond.and given_1 narrow_1).before args s = true) : ∀ j : Nat, j < 32 → (Term.elem (.static "PageMachine$SystemRegisters" "WRITTEN_BITS" "[I") (.int (Int32.ofNat j))).eval args s none [] s = some (.int (wbI j)) := by
  intro j hj
  match j, hj with
  | 0, _ => exact va_eqt (z := 31) (fl_in h (by decide +kernel))
  | 1, _ => exact va_eqt (z := 0) (fl_in h (by decide +kernel))
  | 2, _ => exact va_eqt (z := 67108863) (fl_in h (by decide +kernel))
  | 3, _ => exact va_eqt (z := 67108863) (fl_in h (by decide +kernel))
  | 4, _ => exact va_eqt (z := -8388608) (fl_in h (by decide +kernel))
  | 5, _ => exact va_eqt (z := 0) (fl_in h (by decide +kernel))
  | 6, _ => exact va_eqt (z := 31) (fl_in h (by decide +kernel))
  | 7, _ => exact va_eqt (z := 0) (fl_in h (by decide +kernel))
  | 8, _ => exact va_eqt (z := 0) (fl_in h (by decide +kernel))
  | 9, _ => exact va_eqt (z := -1) (fl_in h (by decide +kernel))
  | 10, _ => exact va_eqt (z := -7937) (fl_in h (by decide +kernel))
  | 11, _ => exact va_eqt (z := -1) (fl_in h (by decide +kernel))
  | 12, _ => exact va_eqt (z := 268500755) (fl_in h (by decide +kernel))
  | 13, _ => exact va_eqt (z := 768) (fl_in h (by decide +kernel))
  | 14, _ => exact va_eqt (z := -1) (fl_in h (by decide +kernel))
  | 15, _ => exact va_eqt (z := 0) (fl_in h (by decide +kernel))
  | 16, _ => exact va_eqt (z := 0) (fl_in h (by decide +kernel))
  | 17, _ => exact va_eqt (z := 0) (fl_in h (by decide +kernel))
  | 18, _ => exact va_eqt (z := 0) (fl_in h (by decide +kernel))
  | 19, _ => exact va_eqt (z := 0) (fl_in h (by decide +kernel))
  | 20, _ => exact va_eqt (z := 0) (fl_in h (by decide +kernel))
  | 21, _ => exact va_eqt (z := 0) (fl_in h (by decide +kernel))
  | 22, _ => exact va_eqt (z := 0) (fl_in h (by decide +kernel))
  | 23, _ => exact va_eqt (z := 0) (fl_in h (by decide +kernel))
  | 24, _ => exact va_eqt (z := 0) (fl_in h (by decide +kernel))
  | 25, _ => exact va_eqt (z := 0) (fl_in h (by decide +kernel))
  | 26, _ => exact va_eqt (z := 0) (fl_in h (by decide +kernel))
  | 27, _ => exact va_eqt (z := 0) (fl_in h (by decide +kernel))
  | 28, _ => exact va_eqt (z := 0) (fl_in h (by decide +kernel))
  | 29, _ => exact va_eqt (z := 0) (fl_in h (by decide +kernel))
  | 30, _ => exact va_eqt (z := 0) (fl_in h (by decide +kernel))
  | 31, _ => exact va_eqt (z := 0) (fl_in h (by decide +kernel))
  | n + 32, hj => exact absurd hj (by omega)
set_option maxRecDepth 20000 in
theorem fl_rhI {args : Array Value} {s : State} (h : (Jvm.Cond.and given_1 narrow_1).before args s = true) : ∀ j : Nat, j < 7 → (Term.elem (.static "PageMachine" "REFILL_HANDLER" "[I") (.int (Int32.ofNat j))).eval args s none [] s = some (.int (rhI j)) := by
  intro j hj
  match j, hj with
  | 0, _ => exact va_eqt (z := 1075519488) (fl_in h (by decide +kernel))
  | 1, _ => exact va_eqt (z := -1887830016) (fl_in h (by decide +kernel))
  | 2, _ => exact va_eqt (z := 1083838464) (fl_in h (by decide +kernel))
  | 3, _ => exact va_eqt (z := -1887764476) (fl_in h (by decide +kernel))
  | 4, _ => exact va_eqt (z := 1083906048) (fl_in h (by decide +kernel))
  | 5, _ => exact va_eqt (z := 1107296262) (fl_in h (by decide +kernel))
  | 6, _ => exact va_eqt (z := 1107296280) (fl_in h (by decide +kernel))
  | n + 7, hj => exact absurd hj (by omega)
/-- what the Statement gives of the start, in the words of the rows -/
theorem law_facts {s : State} {b : Nat} (hts : ∀ w ∈ lw_tbl, w.before #[Value.ref b] s = true) (hgv : (Jvm.Cond.and given_1 narrow_1).before #[Value.ref b] s = true) : ∃ (E : Ev) (sa : Nat → Nat), va_K E.1 xCl (eT E) s ∧ eX E (gA s) s s.heap ∧ thF sa xstrs (gA s) s s.heap ∧ ntF s := by
  have hT : ∀ w ∈ gt_bl, w.before #[Value.ref b] s = true := fun w h => hts w (List.mem_filter.mp h).1
  have hA : ∀ a : Nat, a < s.heap.size → ¬ gA s a := fun a h q => Nat.not_le.mpr h q
  obtain ⟨c0, iS0, hKn0⟩ := u_known (C := "PageMachine") (T := T_PM) (N := 6) (n := 6) hT i_PM (hT _ mw_21)
  obtain ⟨c1, iS1, hKn1⟩ := u_known (C := "PageMachine$Memory") (T := T_ME) (N := 1) (n := 1) hT i_ME (hT _ mw_29)
  obtain ⟨c2, iS2, hKn2⟩ := u_known (C := "PageMachine$SystemRegisters") (T := T_SR) (N := 3) (n := 3) hT i_SR (hT _ mw_41)
  obtain ⟨c3, iS3, hKn3⟩ := u_known (C := "PageMachine$Tlb") (T := T_TL) (N := 5) (n := 5) hT i_TL (hT _ mw_58)
  obtain ⟨c4, iS4, hKn4⟩ := u_known (C := "PageMachine$AddressSpace") (T := T_AS) (N := 4) (n := 4) hT i_AS (hT _ mw_80)
  obtain ⟨c5, iS5, hKn5⟩ := u_known (C := "PageMachine$Core") (T := T_CO) (N := 10) (n := 10) hT i_CO (hT _ mw_99)
  obtain ⟨c6, iS6, hKn6⟩ := u_known (C := "PageMachine$Processor") (T := T_PR) (N := 10) (n := 10) hT i_PR (hT _ mw_150)
  obtain ⟨c7, iS7, hKn7⟩ := u_known (C := "PageMachine$Arithmetic") (T := T_AR) (N := 1) (n := 1) hT i_AR (hT _ mw_156)
  obtain ⟨c8, iS8, hKn8⟩ := u_known (C := "PageMachine$Branches") (T := T_BR) (N := 1) (n := 1) hT i_BR (hT _ mw_166)
  obtain ⟨c9, iS9, hKn9⟩ := u_known (C := "PageMachine$LoadsAndStores") (T := T_LS) (N := 3) (n := 3) hT i_LS (hT _ mw_176)
  obtain ⟨c10, iS10, hKn10⟩ := u_known (C := "PageMachine$Coprocessor") (T := T_CP) (N := 3) (n := 3) hT i_CP (hT _ mw_192)
  obtain ⟨c11, iS11, hKn11⟩ := u_known (C := "PageMachineModel") (T := T_MO) (N := 25) (n := 25) hT i_MO (hT _ mw_878)
  obtain ⟨dC, dI, hKc⟩ : ∃ (dC : Nat → ClassId) (dI : Nat → Nat → Nat), ∀ (k : Nat) (q : vw_C), xCl[k]? = some q → u_Kn s q.1 q.2.1 q.2.2 (dC k) (dI k) := by
    refine ⟨fun k => match k with | 0 => c0 | 1 => c1 | 2 => c2 | 3 => c3 | 4 => c4 | 5 => c5 | 6 => c6 | 7 => c7 | 8 => c8 | 9 => c9 | 10 => c10 | _ => c11, fun k => match k with | 0 => iS0 | 1 => iS1 | 2 => iS2 | 3 => iS3 | 4 => iS4 | 5 => iS5 | 6 => iS6 | 7 => iS7 | 8 => iS8 | 9 => iS9 | 10 => iS10 | _ => iS11, ?_⟩
    intro k q hq
    match k, hq with
    | 0, hq => cases hq; exact hKn0
    | 1, hq => cases hq; exact hKn1
    | 2, hq => cases hq; exact hKn2
    | 3, hq => cases hq; exact hKn3
    | 4, hq => cases hq; exact hKn4
    | 5, hq => cases hq; exact hKn5
    | 6, hq => cases hq; exact hKn6
    | 7, hq => cases hq; exact hKn7
    | 8, hq => cases hq; exact hKn8
    | 9, hq => cases hq; exact hKn9
    | 10, hq => cases hq; exact hKn10
    | 11, hq => cases hq; exact hKn11
    | k + 12, hq => simp at hq
  obtain ⟨aI, kI, oI_, gI1, gI2, gI3⟩ := Cond.arrayClass_spec (hT _ mw_39)
  obtain ⟨aZ, kZ, oZ_, gZ1, gZ2, gZ3⟩ := Cond.arrayClass_spec (hT _ mw_962)
  obtain ⟨aL, kL, oL_, gL1, gL2, gL3⟩ := Cond.arrayClass_spec (hT _ mw_1203)
  obtain ⟨tw, htw, hTw⟩ := va_Tof (tm := .static "PageMachine$SystemRegisters" "WRITTEN_BITS" "[I") (ty := .int) (N := 32) (f := fun j => .int (wbI j)) (A := gA s) (by decide) (fl_in hgv (by decide +kernel)) (va_eqt (fl_in hgv (by decide +kernel))) (fl_wbI hgv) hA
  obtain ⟨tr, htr, hTr⟩ := va_Tof (tm := .static "PageMachine" "REFILL_HANDLER" "[I") (ty := .int) (N := 7) (f := fun j => .int (rhI j)) (A := gA s) (by decide) (fl_in hgv (by decide +kernel)) (va_eqt (fl_in hgv (by decide +kernel))) (fl_rhI hgv) hA
  obtain ⟨t169, ht169⟩ := st_ref (t := .string "PageMachine" 169) (fl_in hgv (by decide +kernel))
  obtain ⟨t175, ht175⟩ := st_ref (t := .string "PageMachine" 175) (fl_in hgv (by decide +kernel))
  obtain ⟨t177, ht177⟩ := st_ref (t := .string "PageMachine" 177) (fl_in hgv (by decide +kernel))
  obtain ⟨t98, ht98⟩ := st_ref (t := .string "PageMachine" 98) (fl_in hgv (by decide +kernel))
  obtain ⟨t109, ht109⟩ := st_ref (t := .string "PageMachine" 109) (fl_in hgv (by decide +kernel))
  obtain ⟨t116, ht116⟩ := st_ref (t := .string "PageMachine" 116) (fl_in hgv (by decide +kernel))
  obtain ⟨t130, ht130⟩ := st_ref (t := .string "PageMachine" 130) (fl_in hgv (by decide +kernel))
  obtain ⟨t153, ht153⟩ := st_ref (t := .string "PageMachine" 153) (fl_in hgv (by decide +kernel))
  refine ⟨((dC, dI), (aI, aZ, aL), (tw, tr)), (fun k => if k = 169 then t169 else if k = 175 then t175 else if k = 177 then t177 else if k = 98 then t98 else if k = 109 then t109 else if k = 116 then t116 else if k = 130 then t130 else if k = 153 then t153 else 0), ⟨hKc, ?_⟩, ⟨⟨va_Zref (hts _ (List.mem_of_getElem? (i := 466) (by decide +kernel))) (hT _ mw_3) htw hA, hTw⟩, va_Zref (hts _ (List.mem_of_getElem? (i := 329) (by decide +kernel))) (hT _ mw_1) htr hA, hTr⟩, ⟨?_, ⟨lsP.of (hts _ (List.mem_of_getElem? (i := 378) (by decide +kernel))) (fl_in hgv (by decide +kernel)) hA, lsP.of (hts _ (List.mem_of_getElem? (i := 380) (by decide +kernel))) (fl_in hgv (by decide +kernel)) hA⟩, ?_, va_Nc.of (fl_in hgv (w := Cond.not (.castable nIO nIA)) (by decide +kernel))⟩, ⟨va_Nw.of rfl (hts _ (List.mem_of_getElem? (i := 97) (by decide +kernel))), va_Nw.of rfl (hts _ (List.mem_of_getElem? (i := 126) (by decide +kernel))), va_Nw.of rfl (hts _ (List.mem_of_getElem? (i := 167) (by decide +kernel)))⟩⟩
  · intro k q hq
    match k, hq with
    | 0, hq => cases hq; exact ⟨fun n z => ⟨fun k h => (by cases h), kI, gI2, oI_, gI3⟩, gI1⟩
    | 1, hq => cases hq; exact ⟨fun n z => ⟨fun k h => (by cases h), kZ, gZ2, oZ_, gZ3⟩, gZ1⟩
    | 2, hq => cases hq; exact ⟨fun n z => ⟨fun k h => (by cases h), kL, gL2, oL_, gL3⟩, gL1⟩
    | k + 3, hq => simp at hq
  · intro w hw hf
    exact face_at (State.WarmedH.refl s) hf (hts w hw)
  · intro q hq
    have hq2 : q = (169, "4 does not divide the address") ∨ q = (175, "no memory there") ∨ q = (177, "no such register") ∨ q = (98, "no such line") ∨ q = (109, "steps are 1 .. 20000") ∨ q = (116, "no such entry or part of one") ∨ q = (130, "how is 0 or 1") ∨ q = (153, "no such count") := by simpa [xstrs] using hq
    rcases hq2 with rfl | rfl | rfl | rfl | rfl | rfl | rfl | rfl
    · exact ⟨hts (.stringRef "PageMachine" 169 "4 does not divide the address") (List.mem_of_getElem? (i := 391) (by decide +kernel)), ht169⟩
    · exact ⟨hts (.stringRef "PageMachine" 175 "no memory there") (List.mem_of_getElem? (i := 432) (by decide +kernel)), ht175⟩
    · exact ⟨hts (.stringRef "PageMachine" 177 "no such register") (List.mem_of_getElem? (i := 460) (by decide +kernel)), ht177⟩
    · exact ⟨hts (.stringRef "PageMachine" 98 "no such line") (List.mem_of_getElem? (i := 498) (by decide +kernel)), ht98⟩
    · exact ⟨hts (.stringRef "PageMachine" 109 "steps are 1 .. 20000") (List.mem_of_getElem? (i := 510) (by decide +kernel)), ht109⟩
    · exact ⟨hts (.stringRef "PageMachine" 116 "no such entry or part of one") (List.mem_of_getElem? (i := 911) (by decide +kernel)), ht116⟩
    · exact ⟨hts (.stringRef "PageMachine" 130 "how is 0 or 1") (List.mem_of_getElem? (i := 923) (by decide +kernel)), ht130⟩
    · exact ⟨hts (.stringRef "PageMachine" 153 "no such count") (List.mem_of_getElem? (i := 935) (by decide +kernel)), ht153⟩
set_option maxHeartbeats 4000000 in
set_option maxRecDepth 100000 in
/-- the law from its entry, if the two sides agree -/
theorem whole_start_open {Rel : XS → MS → Prop} (hSIM : SIMs Rel) (hR0 : Rel x0 m0) {p : Program} {e : Env} {s : State} {m : MethodId} {below : List Frame} {meth : Method} {c : Code} (l : Launch) (hfl : l.flags = flags0) {b L : Nat} {xs : Nat → Int32} (hL : L ≤ 2048) (C0 : lw_At p s m meth c b L xs) : W p l e room_1 s m #[Value.ref b] below meth c s.heap [] 0 0 (lw_Z below #[Value.ref b] s) (entryFrame m ([Value.ref b] : List Value).toArray 8) := by
  obtain ⟨hx, hb, hr, hml, hown, hts, hX, hbl, hlocks, hgv⟩ := C0
  obtain ⟨E, sa, hK, hEX, hth, hnt⟩ := law_facts hts hgv
  have hc : Cx xCl E (gA s) p s m #[Value.ref b] meth c code 8 ret "PageMachineLaw" := ⟨hx, hb, hml, hr, hlocks, hown, fun w h => hts w (List.mem_filter.mp h).1, hK, hEX⟩
  have w : Wd xCl E (gA s) s.heap s.heap [] [] := ⟨fun k q h => by simp at h, ⟨fun i j p q h => by simp at h, fun k q h => by simp at h⟩, va_S.rf, fun _ h => h⟩
  have hl := lv_entry ([.ref b]) (n := 8) (Nat.le_of_ble_eq_true rfl)
  rw [lg_entry_eq]
  generalize (lg_sl ([.ref b]) ++ List.replicate (8 - (lg_sl ([.ref b])).length) Slot.unset).toArray = ls at hl ⊢
  have hl : lv_has ls 8 [(0, .ref b)] := hl
  refine k_new (ci := 0) (fs := [.null, .null, .null, .null, .null, .null]) hc w i_PM ty_PM tyok_PM mw_20 mw_21 mw_1 rfl (fun j hj => by match j, hj with | 0, _ => rfl | 1, _ => rfl | 2, _ => rfl | 3, _ => rfl | 4, _ => rfl | 5, _ => rfl | n + 6, h => exact absurd h (by omega)) (Nat.le_of_ble_eq_true rfl) (Nat.le_of_ble_eq_true rfl) d_LAW_0 (fun qx H w => ?_)
  have w : Wd xCl E (gA s) s.heap H [] [(qx, .inr (0, [.null, .null, .null, .null, .null, .null]))] := w
  refine lv_dup hx hb d_LAW_3 rfl ?_
  refine k_call (wr := []) (rest := [.ref qx]) hc w (c_PM_init l E qx) ki_PM_init (fun _ => hnt) mw_22 ⟨Nat.le_of_ble_eq_true rfl, Nat.le_of_ble_eq_true rfl⟩ hl.1 rfl (Nat.le_of_ble_eq_true rfl) ⟨Nat.le_of_ble_eq_true rfl, Nat.le_of_ble_eq_true rfl⟩ d_LAW_4 (fun nx H locs w => ?_)
  have w : Wd xCl E (gA s) s.heap H locs (xW E (ax qx nx) x0) := w
  refine lv_astore_n (lv' := [(1, .ref qx), (0, .ref b)]) hx hb d_LAW_7 rfl hl (by decide) rfl (fun ls hl => ?_)
  refine k_new (ci := 11) (fs := [.int 0, .null, .null, .int 0, .int 0, .int 0, .int 0, .int 0, .int 0, .null, .int 0, .null, .null, .null, .null, .null, .int 0, .null, .int 0, .int 0, .int 0, .int 0, .int 0, .int 0, .int 0]) hc w i_MO ty_MO tyok_MO mw_877 mw_878 mw_12 rfl (fun j hj => by match j, hj with | 0, _ => rfl | 1, _ => rfl | 2, _ => rfl | 3, _ => rfl | 4, _ => rfl | 5, _ => rfl | 6, _ => rfl | 7, _ => rfl | 8, _ => rfl | 9, _ => rfl | 10, _ => rfl | 11, _ => rfl | 12, _ => rfl | 13, _ => rfl | 14, _ => rfl | 15, _ => rfl | 16, _ => rfl | 17, _ => rfl | 18, _ => rfl | 19, _ => rfl | 20, _ => rfl | 21, _ => rfl | 22, _ => rfl | 23, _ => rfl | 24, _ => rfl | n + 25, h => exact absurd h (by omega)) (Nat.le_of_ble_eq_true rfl) (Nat.le_of_ble_eq_true rfl) d_LAW_8 (fun qm H w => ?_)
  refine lv_dup hx hb d_LAW_11 rfl ?_
  refine k_call (wr := xW E (ax qx nx) x0) (rest := [.ref qm]) hc w (c_MO_init l E qm) ki_MO_init (fun h => h.elim) mw_879 ⟨Nat.le_of_ble_eq_true rfl, Nat.le_of_ble_eq_true rfl⟩ hl.1 rfl (Nat.le_of_ble_eq_true rfl) ⟨Nat.le_of_ble_eq_true rfl, Nat.le_of_ble_eq_true rfl⟩ d_LAW_12 (fun nm H locs w => ?_)
  refine lv_astore_n (lv' := [(2, .ref qm), (1, .ref qx), (0, .ref b)]) hx hb d_LAW_15 rfl hl (by decide) rfl (fun ls hl => ?_)
  refine lv_iconst (v := 1) hx hb d_LAW_16 (by decide) ?_
  refine k_arrL (N := 1) hc w mw_1203 (by decide) (by decide) (Nat.le_of_ble_eq_true rfl) (Nat.le_of_ble_eq_true rfl) (Nat.le_of_ble_eq_true rfl) d_LAW_17 (fun oa H w => ?_)
  refine lv_astore_n (lv' := [(3, .ref oa), (2, .ref qm), (1, .ref qx), (0, .ref b)]) hx hb d_LAW_19 rfl hl (by decide) rfl (fun ls hl => ?_)
  refine lv_iconst (v := 0) hx hb d_LAW_20 (by decide) ?_
  refine lv_istore (lv' := [(4, .int 0), (3, .ref oa), (2, .ref qm), (1, .ref qx), (0, .ref b)]) hx hb d_LAW_21 hl (by decide) rfl (fun ls hl => ?_)
  have w : Wd xCl E (gA s) s.heap H locs (gW E (ax qx nx) (ax qm nm) oa (x0, fun _ => 0) m0) := w.perm [20, 21, 22, 23, 24, 25, 26, 27, 28, 29, 30, 0, 1, 2, 3, 4, 5, 6, 7, 8, 9, 10, 11, 12, 13, 14, 15, 16, 17, 18, 19] (by decide) rfl
  refine W.widen (k := 40) (n := 140000) (Nat.le_of_ble_eq_true rfl) (Nat.le_of_ble_eq_true rfl) ?_
  exact law_loop (ad := ax qx nx) (ad2 := ax qm nm) (oa := oa) hfl hc hth hX hbl hL hSIM (L + 1) 0 (x0, fun _ => 0) m0 H locs ls 40 140000 (by omega) (by omega) (by omega) (by omega) hR0 w (lv_sub hl [4, 3, 2, 1, 0] rfl)
