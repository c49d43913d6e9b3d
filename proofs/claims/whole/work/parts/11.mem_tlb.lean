-- ME_has
def f_ME_has (σ : XS) (a1 : Int64) : Bool := if (lg_cmp a1 (0 : Int64)) < 0 then (false) else (if 0 ≤ (lg_cmp a1 (262144 : Int64)) then (false) else (true))
theorem d_ME_has_0 : decode b_ME_has 0 = .ok (.lload_n 1, 1) := by decide +kernel
theorem d_ME_has_1 : decode b_ME_has 1 = .ok (.lconst 0, 1) := by decide +kernel
theorem d_ME_has_2 : decode b_ME_has 2 = .ok (.lcmp, 1) := by decide +kernel
theorem d_ME_has_3 : decode b_ME_has 3 = .ok (.ifCond .lt 15, 3) := by decide +kernel
theorem d_ME_has_6 : decode b_ME_has 6 = .ok (.lload_n 1, 1) := by decide +kernel
theorem d_ME_has_7 : decode b_ME_has 7 = .ok (.ldc2_w 14, 3) := by decide +kernel
theorem d_ME_has_10 : decode b_ME_has 10 = .ok (.lcmp, 1) := by decide +kernel
theorem d_ME_has_11 : decode b_ME_has 11 = .ok (.ifCond .ge 7, 3) := by decide +kernel
theorem d_ME_has_14 : decode b_ME_has 14 = .ok (.iconst 1, 1) := by decide +kernel
theorem d_ME_has_15 : decode b_ME_has 15 = .ok (.goto 4, 3) := by decide +kernel
theorem d_ME_has_18 : decode b_ME_has 18 = .ok (.iconst 0, 1) := by decide +kernel
theorem d_ME_has_19 : decode b_ME_has 19 = .ok (.ireturn, 1) := by decide +kernel
set_option maxHeartbeats 4000000 in
set_option maxRecDepth 100000 in
theorem c_ME_has (l : Launch) (E : Ev) (ad : Nat → Nat) (σ : XS) (a1 : Int64) : rC xCl l E (xW E ad) y_ME_has b_ME_has 3 (Option.some Jvm.ClassFile.FieldType.boolean) (rmo 0 0) [.ref (ad 1), .long a1] σ ((σ, some (Value.int (zb (f_ME_has σ a1))))) := by
  refine rC.of (by decide) (Nat.le_of_ble_eq_true rfl) ?_
  intro p e s m below meth c A ls hc w hl
  generalize e0 : (σ, some (Value.int (zb (f_ME_has σ a1)))) = Z
  have hc : Cx xCl E A p s m ([.ref (ad 1), .long a1] : List Value).toArray meth c b_ME_has 3 (Option.some Jvm.ClassFile.FieldType.boolean) "PageMachine$Memory" := hc
  have hx := hc.1
  have hb := hc.2.1
  have ho := hc.2.2.2.2.2.1
  have hT := hc.2.2.2.2.2.2.1
  have hl : lv_has ls 3 [(0, .ref (ad 1)), (1, .long a1)] := hl
  refine lv_lload_n hx hb d_ME_has_0 rfl (lv_at hl 1 rfl) ?_
  refine lv_lconst (v := 0) hx hb d_ME_has_1 (by decide) ?_
  refine W.lcmp hx hb d_ME_has_2 ?_
  refine lv_if_lt (tgt := 18) hx hb d_ME_has_3 (by decide) (fun q3 => ?_) (fun q3 => ?_)
  · refine lv_iconst (v := 0) hx hb d_ME_has_18 (by decide) ?_
    exact rt_z (v := false) hc w d_ME_has_19 rfl (by rw [← e0, f_ME_has, if_pos q3] <;> rfl)
  · refine lv_lload_n hx hb d_ME_has_6 rfl (lv_at hl 1 rfl) ?_
    refine lv_ldc2 (v := 262144) hx hb ho (hT _ mw_355) d_ME_has_7 ?_
    refine W.lcmp hx hb d_ME_has_10 ?_
    refine lv_if_ge (tgt := 18) hx hb d_ME_has_11 (by decide) (fun q11 => ?_) (fun q11 => ?_)
    · refine lv_iconst (v := 0) hx hb d_ME_has_18 (by decide) ?_
      exact rt_z (v := false) hc w d_ME_has_19 rfl (by rw [← e0, f_ME_has, if_neg q3, if_pos q11] <;> rfl)
    · refine lv_iconst (v := 1) hx hb d_ME_has_14 (by decide) ?_
      refine lv_goto (tgt := 19) hx hb d_ME_has_15 (by decide) ?_
      exact rt_z (v := true) hc w d_ME_has_19 rfl (by rw [← e0, f_ME_has, if_neg q3, if_neg q11] <;> rfl)
-- ME_rowOf
def f_ME_rowOf (σ : XS) (a1 : Int32) : Int32 := (Int32.toUInt32 (a1 &&& (262143 : Int32)) >>> (Int32.toUInt32 (2 : Int32) &&& Int32.toUInt32 31)).toInt32
theorem d_ME_rowOf_0 : decode b_ME_rowOf 0 = .ok (.iload_n 0, 1) := by decide +kernel
theorem d_ME_rowOf_1 : decode b_ME_rowOf 1 = .ok (.ldc 20, 2) := by decide +kernel
theorem d_ME_rowOf_3 : decode b_ME_rowOf 3 = .ok (.iand, 1) := by decide +kernel
theorem d_ME_rowOf_4 : decode b_ME_rowOf 4 = .ok (.iconst 2, 1) := by decide +kernel
theorem d_ME_rowOf_5 : decode b_ME_rowOf 5 = .ok (.iushr, 1) := by decide +kernel
theorem d_ME_rowOf_6 : decode b_ME_rowOf 6 = .ok (.ireturn, 1) := by decide +kernel
set_option maxHeartbeats 4000000 in
set_option maxRecDepth 100000 in
theorem c_ME_rowOf (l : Launch) (E : Ev) (ad : Nat → Nat) (σ : XS) (a1 : Int32) : rC xCl l E (xW E ad) y_ME_rowOf b_ME_rowOf 1 (Option.some Jvm.ClassFile.FieldType.int) (rmo 0 0) [.int a1] σ ((σ, some (Value.int (f_ME_rowOf σ a1)))) := by
  refine rC.of (by decide) (Nat.le_of_ble_eq_true rfl) ?_
  intro p e s m below meth c A ls hc w hl
  generalize e0 : (σ, some (Value.int (f_ME_rowOf σ a1))) = Z
  have hc : Cx xCl E A p s m ([.int a1] : List Value).toArray meth c b_ME_rowOf 1 (Option.some Jvm.ClassFile.FieldType.int) "PageMachine$Memory" := hc
  have hx := hc.1
  have hb := hc.2.1
  have ho := hc.2.2.2.2.2.1
  have hT := hc.2.2.2.2.2.2.1
  have hl : lv_has ls 1 [(0, .int a1)] := hl
  refine lv_iload_n hx hb d_ME_rowOf_0 rfl (lv_at hl 0 rfl) ?_
  refine lv_ldc (v := 262143) hx hb ho (hT _ mw_270) d_ME_rowOf_1 ?_
  refine lv_iand hx hb d_ME_rowOf_3 ?_
  refine lv_iconst (v := 2) hx hb d_ME_rowOf_4 (by decide) ?_
  refine lv_iushr hx hb d_ME_rowOf_5 rfl ?_
  exact rt_i hc w d_ME_rowOf_6 (by rw [← e0, f_ME_rowOf] <;> rfl)
theorem bd_rowOf (σ : XS) (a : Int32) : vp_in (f_ME_rowOf σ a) 65536 := by
  rw [f_ME_rowOf, pk_and a 18 (by decide), pk_ushrN (k := 2) (by omega) _ (by decide)]
  exact vp_in_nI (by omega) (by decide)
-- ME_wordAt
def f_ME_wordAt (σ : XS) (a1 : Int32) : Int32 := x_words σ (Int32.toNatClampNeg (f_ME_rowOf σ a1))
theorem d_ME_wordAt_0 : decode b_ME_wordAt 0 = .ok (.aload_n 0, 1) := by decide +kernel
theorem d_ME_wordAt_1 : decode b_ME_wordAt 1 = .ok (.getfield 10, 3) := by decide +kernel
theorem d_ME_wordAt_4 : decode b_ME_wordAt 4 = .ok (.iload_n 1, 1) := by decide +kernel
theorem d_ME_wordAt_5 : decode b_ME_wordAt 5 = .ok (.invokestatic 16, 3) := by decide +kernel
theorem d_ME_wordAt_8 : decode b_ME_wordAt 8 = .ok (.iaload, 1) := by decide +kernel
theorem d_ME_wordAt_9 : decode b_ME_wordAt 9 = .ok (.ireturn, 1) := by decide +kernel
set_option maxHeartbeats 4000000 in
set_option maxRecDepth 100000 in
theorem c_ME_wordAt (l : Launch) (E : Ev) (ad : Nat → Nat) (σ : XS) (a1 : Int32) : rC xCl l E (xW E ad) y_ME_wordAt b_ME_wordAt 2 (Option.some Jvm.ClassFile.FieldType.int) (rmo 1 20) [.ref (ad 1), .int a1] σ ((σ, some (Value.int (f_ME_wordAt σ a1)))) := by
  refine rC.of (by decide) (Nat.le_of_ble_eq_true rfl) ?_
  intro p e s m below meth c A ls hc w hl
  generalize e0 : (σ, some (Value.int (f_ME_wordAt σ a1))) = Z
  have hc : Cx xCl E A p s m ([.ref (ad 1), .int a1] : List Value).toArray meth c b_ME_wordAt 2 (Option.some Jvm.ClassFile.FieldType.int) "PageMachine$Memory" := hc
  have hx := hc.1
  have hb := hc.2.1
  have ho := hc.2.2.2.2.2.1
  have hT := hc.2.2.2.2.2.2.1
  have hl : lv_has ls 2 [(0, .ref (ad 1)), (1, .int a1)] := hl
  refine lv_aload_n hx hb d_ME_wordAt_0 rfl (lv_at hl 0 rfl) ?_
  refine g_ME_words hc w mw_35 d_ME_wordAt_1 ?_
  refine lv_iload_n hx hb d_ME_wordAt_4 rfl (lv_at hl 1 rfl) ?_
  refine rSI (rest := [.ref (ad 11)]) hc w (c_ME_rowOf l E ad σ a1) ks_ME_rowOf mw_267 ⟨Nat.le_of_ble_eq_true rfl, Nat.le_of_ble_eq_true rfl⟩ hl.1 rfl (Nat.le_of_ble_eq_true rfl) ⟨Nat.zero_le _, Nat.zero_le _⟩ d_ME_wordAt_5 (fun H locs w => ?_)
  refine a_ME_words hc w (bd_rowOf _ _) d_ME_wordAt_8 ?_
  exact rt_i hc w d_ME_wordAt_9 (by rw [← e0, f_ME_wordAt] <;> rfl)
-- ME_putWord
def f_ME_putWord_c1 (σ9 : XS) (a1 : Int32) (a2 : Int32)  : XS := σ9
def f_ME_putWord (σ : XS) (a1 : Int32) (a2 : Int32) : XS := f_ME_putWord_c1 (xs_words σ (upd (x_words σ) (Int32.toNatClampNeg (f_ME_rowOf σ a1)) a2)) a1 a2 
theorem d_ME_putWord_0 : decode b_ME_putWord 0 = .ok (.aload_n 0, 1) := by decide +kernel
theorem d_ME_putWord_1 : decode b_ME_putWord 1 = .ok (.getfield 10, 3) := by decide +kernel
theorem d_ME_putWord_4 : decode b_ME_putWord 4 = .ok (.iload_n 1, 1) := by decide +kernel
theorem d_ME_putWord_5 : decode b_ME_putWord 5 = .ok (.invokestatic 16, 3) := by decide +kernel
theorem d_ME_putWord_8 : decode b_ME_putWord 8 = .ok (.iload_n 2, 1) := by decide +kernel
theorem d_ME_putWord_9 : decode b_ME_putWord 9 = .ok (.iastore, 1) := by decide +kernel
theorem d_ME_putWord_10 : decode b_ME_putWord 10 = .ok (.return_, 1) := by decide +kernel
set_option maxHeartbeats 4000000 in
set_option maxRecDepth 100000 in
theorem c_ME_putWord (l : Launch) (E : Ev) (ad : Nat → Nat) (σ : XS) (a1 : Int32) (a2 : Int32) : rC xCl l E (xW E ad) y_ME_putWord b_ME_putWord 3 (Option.none : Option Jvm.ClassFile.FieldType) (rmo 1 20) [.ref (ad 1), .int a1, .int a2] σ (zV (f_ME_putWord σ a1 a2)) := by
  refine rC.of (by decide) (Nat.le_of_ble_eq_true rfl) ?_
  intro p e s m below meth c A ls hc w hl
  generalize e0 : zV (f_ME_putWord σ a1 a2) = Z
  have hc : Cx xCl E A p s m ([.ref (ad 1), .int a1, .int a2] : List Value).toArray meth c b_ME_putWord 3 (Option.none : Option Jvm.ClassFile.FieldType) "PageMachine$Memory" := hc
  have hx := hc.1
  have hb := hc.2.1
  have ho := hc.2.2.2.2.2.1
  have hT := hc.2.2.2.2.2.2.1
  have hl : lv_has ls 3 [(0, .ref (ad 1)), (1, .int a1), (2, .int a2)] := hl
  refine lv_aload_n hx hb d_ME_putWord_0 rfl (lv_at hl 0 rfl) ?_
  refine g_ME_words hc w mw_35 d_ME_putWord_1 ?_
  refine lv_iload_n hx hb d_ME_putWord_4 rfl (lv_at hl 1 rfl) ?_
  refine rSI (rest := [.ref (ad 11)]) hc w (c_ME_rowOf l E ad σ a1) ks_ME_rowOf mw_267 ⟨Nat.le_of_ble_eq_true rfl, Nat.le_of_ble_eq_true rfl⟩ hl.1 rfl (Nat.le_of_ble_eq_true rfl) ⟨Nat.zero_le _, Nat.zero_le _⟩ d_ME_putWord_5 (fun H locs w => ?_)
  refine lv_iload_n hx hb d_ME_putWord_8 rfl (lv_at hl 2 rfl) ?_
  refine s_ME_words hc w (bd_rowOf _ _) d_ME_putWord_9 (fun σ9 H locs hs9 w => ?_)
  have e_c1 : zV (f_ME_putWord_c1 σ9 a1 a2 ) = Z := by rw [← e0, f_ME_putWord, hs9]
  exact rt_v hc w d_ME_putWord_10 (by rw [← e_c1, f_ME_putWord_c1] <;> rfl)
-- TL_pageOf
def f_TL_pageOf (σ : XS) (a1 : Int32) : Int32 := x_pages σ (Int32.toNatClampNeg (a1 &&& (31 : Int32)))
theorem d_TL_pageOf_0 : decode b_TL_pageOf 0 = .ok (.aload_n 0, 1) := by decide +kernel
theorem d_TL_pageOf_1 : decode b_TL_pageOf 1 = .ok (.getfield 11, 3) := by decide +kernel
theorem d_TL_pageOf_4 : decode b_TL_pageOf 4 = .ok (.iload_n 1, 1) := by decide +kernel
theorem d_TL_pageOf_5 : decode b_TL_pageOf 5 = .ok (.bipush 31, 2) := by decide +kernel
theorem d_TL_pageOf_7 : decode b_TL_pageOf 7 = .ok (.iand, 1) := by decide +kernel
theorem d_TL_pageOf_8 : decode b_TL_pageOf 8 = .ok (.iaload, 1) := by decide +kernel
theorem d_TL_pageOf_9 : decode b_TL_pageOf 9 = .ok (.ireturn, 1) := by decide +kernel
set_option maxHeartbeats 4000000 in
set_option maxRecDepth 100000 in
theorem c_TL_pageOf (l : Launch) (E : Ev) (ad : Nat → Nat) (σ : XS) (a1 : Int32) : rC xCl l E (xW E ad) y_TL_pageOf b_TL_pageOf 2 (Option.some Jvm.ClassFile.FieldType.int) (rmo 0 0) [.ref (ad 3), .int a1] σ ((σ, some (Value.int (f_TL_pageOf σ a1)))) := by
  refine rC.of (by decide) (Nat.le_of_ble_eq_true rfl) ?_
  intro p e s m below meth c A ls hc w hl
  generalize e0 : (σ, some (Value.int (f_TL_pageOf σ a1))) = Z
  have hc : Cx xCl E A p s m ([.ref (ad 3), .int a1] : List Value).toArray meth c b_TL_pageOf 2 (Option.some Jvm.ClassFile.FieldType.int) "PageMachine$Tlb" := hc
  have hx := hc.1
  have hb := hc.2.1
  have ho := hc.2.2.2.2.2.1
  have hT := hc.2.2.2.2.2.2.1
  have hl : lv_has ls 2 [(0, .ref (ad 3)), (1, .int a1)] := hl
  refine lv_aload_n hx hb d_TL_pageOf_0 rfl (lv_at hl 0 rfl) ?_
  refine g_TL_pages hc w mw_63 d_TL_pageOf_1 ?_
  refine lv_iload_n hx hb d_TL_pageOf_4 rfl (lv_at hl 1 rfl) ?_
  refine lv_bipush (v := 31) hx hb d_TL_pageOf_5 (by decide) ?_
  refine lv_iand hx hb d_TL_pageOf_7 ?_
  refine a_TL_pages hc w (bd31 _) d_TL_pageOf_8 ?_
  exact rt_i hc w d_TL_pageOf_9 (by rw [← e0, f_TL_pageOf] <;> rfl)
-- TL_asidOf
def f_TL_asidOf (σ : XS) (a1 : Int32) : Int32 := x_asids σ (Int32.toNatClampNeg (a1 &&& (31 : Int32)))
theorem d_TL_asidOf_0 : decode b_TL_asidOf 0 = .ok (.aload_n 0, 1) := by decide +kernel
theorem d_TL_asidOf_1 : decode b_TL_asidOf 1 = .ok (.getfield 15, 3) := by decide +kernel
theorem d_TL_asidOf_4 : decode b_TL_asidOf 4 = .ok (.iload_n 1, 1) := by decide +kernel
theorem d_TL_asidOf_5 : decode b_TL_asidOf 5 = .ok (.bipush 31, 2) := by decide +kernel
theorem d_TL_asidOf_7 : decode b_TL_asidOf 7 = .ok (.iand, 1) := by decide +kernel
theorem d_TL_asidOf_8 : decode b_TL_asidOf 8 = .ok (.iaload, 1) := by decide +kernel
theorem d_TL_asidOf_9 : decode b_TL_asidOf 9 = .ok (.ireturn, 1) := by decide +kernel
set_option maxHeartbeats 4000000 in
set_option maxRecDepth 100000 in
theorem c_TL_asidOf (l : Launch) (E : Ev) (ad : Nat → Nat) (σ : XS) (a1 : Int32) : rC xCl l E (xW E ad) y_TL_asidOf b_TL_asidOf 2 (Option.some Jvm.ClassFile.FieldType.int) (rmo 0 0) [.ref (ad 3), .int a1] σ ((σ, some (Value.int (f_TL_asidOf σ a1)))) := by
  refine rC.of (by decide) (Nat.le_of_ble_eq_true rfl) ?_
  intro p e s m below meth c A ls hc w hl
  generalize e0 : (σ, some (Value.int (f_TL_asidOf σ a1))) = Z
  have hc : Cx xCl E A p s m ([.ref (ad 3), .int a1] : List Value).toArray meth c b_TL_asidOf 2 (Option.some Jvm.ClassFile.FieldType.int) "PageMachine$Tlb" := hc
  have hx := hc.1
  have hb := hc.2.1
  have ho := hc.2.2.2.2.2.1
  have hT := hc.2.2.2.2.2.2.1
  have hl : lv_has ls 2 [(0, .ref (ad 3)), (1, .int a1)] := hl
  refine lv_aload_n hx hb d_TL_asidOf_0 rfl (lv_at hl 0 rfl) ?_
  refine g_TL_asids hc w mw_64 d_TL_asidOf_1 ?_
  refine lv_iload_n hx hb d_TL_asidOf_4 rfl (lv_at hl 1 rfl) ?_
  refine lv_bipush (v := 31) hx hb d_TL_asidOf_5 (by decide) ?_
  refine lv_iand hx hb d_TL_asidOf_7 ?_
  refine a_TL_asids hc w (bd31 _) d_TL_asidOf_8 ?_
  exact rt_i hc w d_TL_asidOf_9 (by rw [← e0, f_TL_asidOf] <;> rfl)
-- TL_globalOf
def f_TL_globalOf (σ : XS) (a1 : Int32) : Int32 := x_globals σ (Int32.toNatClampNeg (a1 &&& (31 : Int32)))
theorem d_TL_globalOf_0 : decode b_TL_globalOf 0 = .ok (.aload_n 0, 1) := by decide +kernel
theorem d_TL_globalOf_1 : decode b_TL_globalOf 1 = .ok (.getfield 18, 3) := by decide +kernel
theorem d_TL_globalOf_4 : decode b_TL_globalOf 4 = .ok (.iload_n 1, 1) := by decide +kernel
theorem d_TL_globalOf_5 : decode b_TL_globalOf 5 = .ok (.bipush 31, 2) := by decide +kernel
theorem d_TL_globalOf_7 : decode b_TL_globalOf 7 = .ok (.iand, 1) := by decide +kernel
theorem d_TL_globalOf_8 : decode b_TL_globalOf 8 = .ok (.iaload, 1) := by decide +kernel
theorem d_TL_globalOf_9 : decode b_TL_globalOf 9 = .ok (.ireturn, 1) := by decide +kernel
set_option maxHeartbeats 4000000 in
set_option maxRecDepth 100000 in
theorem c_TL_globalOf (l : Launch) (E : Ev) (ad : Nat → Nat) (σ : XS) (a1 : Int32) : rC xCl l E (xW E ad) y_TL_globalOf b_TL_globalOf 2 (Option.some Jvm.ClassFile.FieldType.int) (rmo 0 0) [.ref (ad 3), .int a1] σ ((σ, some (Value.int (f_TL_globalOf σ a1)))) := by
  refine rC.of (by decide) (Nat.le_of_ble_eq_true rfl) ?_
  intro p e s m below meth c A ls hc w hl
  generalize e0 : (σ, some (Value.int (f_TL_globalOf σ a1))) = Z
  have hc : Cx xCl E A p s m ([.ref (ad 3), .int a1] : List Value).toArray meth c b_TL_globalOf 2 (Option.some Jvm.ClassFile.FieldType.int) "PageMachine$Tlb" := hc
  have hx := hc.1
  have hb := hc.2.1
  have ho := hc.2.2.2.2.2.1
  have hT := hc.2.2.2.2.2.2.1
  have hl : lv_has ls 2 [(0, .ref (ad 3)), (1, .int a1)] := hl
  refine lv_aload_n hx hb d_TL_globalOf_0 rfl (lv_at hl 0 rfl) ?_
  refine g_TL_globals hc w mw_65 d_TL_globalOf_1 ?_
  refine lv_iload_n hx hb d_TL_globalOf_4 rfl (lv_at hl 1 rfl) ?_
  refine lv_bipush (v := 31) hx hb d_TL_globalOf_5 (by decide) ?_
  refine lv_iand hx hb d_TL_globalOf_7 ?_
  refine a_TL_globals hc w (bd31 _) d_TL_globalOf_8 ?_
  exact rt_i hc w d_TL_globalOf_9 (by rw [← e0, f_TL_globalOf] <;> rfl)
-- TL_halfOf
def f_TL_halfOf (σ : XS) (a1 : Int32) (a2 : Int32) : Int32 := if a2 = 0 then (x_even σ (Int32.toNatClampNeg (a1 &&& (31 : Int32)))) else (x_odd σ (Int32.toNatClampNeg (a1 &&& (31 : Int32))))
theorem d_TL_halfOf_0 : decode b_TL_halfOf 0 = .ok (.iload_n 2, 1) := by decide +kernel
theorem d_TL_halfOf_1 : decode b_TL_halfOf 1 = .ok (.ifCond .ne 15, 3) := by decide +kernel
theorem d_TL_halfOf_4 : decode b_TL_halfOf 4 = .ok (.aload_n 0, 1) := by decide +kernel
theorem d_TL_halfOf_5 : decode b_TL_halfOf 5 = .ok (.getfield 21, 3) := by decide +kernel
theorem d_TL_halfOf_8 : decode b_TL_halfOf 8 = .ok (.iload_n 1, 1) := by decide +kernel
theorem d_TL_halfOf_9 : decode b_TL_halfOf 9 = .ok (.bipush 31, 2) := by decide +kernel
theorem d_TL_halfOf_11 : decode b_TL_halfOf 11 = .ok (.iand, 1) := by decide +kernel
theorem d_TL_halfOf_12 : decode b_TL_halfOf 12 = .ok (.iaload, 1) := by decide +kernel
theorem d_TL_halfOf_13 : decode b_TL_halfOf 13 = .ok (.goto 12, 3) := by decide +kernel
theorem d_TL_halfOf_16 : decode b_TL_halfOf 16 = .ok (.aload_n 0, 1) := by decide +kernel
theorem d_TL_halfOf_17 : decode b_TL_halfOf 17 = .ok (.getfield 24, 3) := by decide +kernel
theorem d_TL_halfOf_20 : decode b_TL_halfOf 20 = .ok (.iload_n 1, 1) := by decide +kernel
theorem d_TL_halfOf_21 : decode b_TL_halfOf 21 = .ok (.bipush 31, 2) := by decide +kernel
theorem d_TL_halfOf_23 : decode b_TL_halfOf 23 = .ok (.iand, 1) := by decide +kernel
theorem d_TL_halfOf_24 : decode b_TL_halfOf 24 = .ok (.iaload, 1) := by decide +kernel
theorem d_TL_halfOf_25 : decode b_TL_halfOf 25 = .ok (.ireturn, 1) := by decide +kernel
set_option maxHeartbeats 4000000 in
set_option maxRecDepth 100000 in
theorem c_TL_halfOf (l : Launch) (E : Ev) (ad : Nat → Nat) (σ : XS) (a1 : Int32) (a2 : Int32) : rC xCl l E (xW E ad) y_TL_halfOf b_TL_halfOf 3 (Option.some Jvm.ClassFile.FieldType.int) (rmo 0 0) [.ref (ad 3), .int a1, .int a2] σ ((σ, some (Value.int (f_TL_halfOf σ a1 a2)))) := by
  refine rC.of (by decide) (Nat.le_of_ble_eq_true rfl) ?_
  intro p e s m below meth c A ls hc w hl
  generalize e0 : (σ, some (Value.int (f_TL_halfOf σ a1 a2))) = Z
  have hc : Cx xCl E A p s m ([.ref (ad 3), .int a1, .int a2] : List Value).toArray meth c b_TL_halfOf 3 (Option.some Jvm.ClassFile.FieldType.int) "PageMachine$Tlb" := hc
  have hx := hc.1
  have hb := hc.2.1
  have ho := hc.2.2.2.2.2.1
  have hT := hc.2.2.2.2.2.2.1
  have hl : lv_has ls 3 [(0, .ref (ad 3)), (1, .int a1), (2, .int a2)] := hl
  refine lv_iload_n hx hb d_TL_halfOf_0 rfl (lv_at hl 2 rfl) ?_
  refine lv_if_ne (tgt := 16) hx hb d_TL_halfOf_1 (by decide) (fun q1 => ?_) (fun q1 => ?_)
  · refine lv_aload_n hx hb d_TL_halfOf_16 rfl (lv_at hl 0 rfl) ?_
    refine g_TL_oddHalves hc w mw_67 d_TL_halfOf_17 ?_
    refine lv_iload_n hx hb d_TL_halfOf_20 rfl (lv_at hl 1 rfl) ?_
    refine lv_bipush (v := 31) hx hb d_TL_halfOf_21 (by decide) ?_
    refine lv_iand hx hb d_TL_halfOf_23 ?_
    refine a_TL_oddHalves hc w (bd31 _) d_TL_halfOf_24 ?_
    exact rt_i hc w d_TL_halfOf_25 (by rw [← e0, f_TL_halfOf, if_neg q1] <;> rfl)
  · refine lv_aload_n hx hb d_TL_halfOf_4 rfl (lv_at hl 0 rfl) ?_
    refine g_TL_evenHalves hc w mw_66 d_TL_halfOf_5 ?_
    refine lv_iload_n hx hb d_TL_halfOf_8 rfl (lv_at hl 1 rfl) ?_
    refine lv_bipush (v := 31) hx hb d_TL_halfOf_9 (by decide) ?_
    refine lv_iand hx hb d_TL_halfOf_11 ?_
    refine a_TL_evenHalves hc w (bd31 _) d_TL_halfOf_12 ?_
    refine lv_goto (tgt := 25) hx hb d_TL_halfOf_13 (by decide) ?_
    exact rt_i hc w d_TL_halfOf_25 (by rw [← e0, f_TL_halfOf, if_pos q1] <;> rfl)
-- TL_fill
def f_TL_fill_c5 (σ65 : XS) (a1 : Int32) (a2 : Int32) (a3 : Int32) (a4 : Int32)  : XS := σ65
def f_TL_fill_c4 (σ53 : XS) (a1 : Int32) (a2 : Int32) (a3 : Int32) (a4 : Int32) (u1_5 : Int32) : XS := f_TL_fill_c5 (xs_odd σ53 (upd (x_odd σ53) (Int32.toNatClampNeg u1_5) (a4 &&& (67108862 : Int32)))) a1 a2 a3 a4 
def f_TL_fill_c3 (σ42 : XS) (a1 : Int32) (a2 : Int32) (a3 : Int32) (a4 : Int32) (u1_5 : Int32) : XS := f_TL_fill_c4 (xs_even σ42 (upd (x_even σ42) (Int32.toNatClampNeg u1_5) (a3 &&& (67108862 : Int32)))) a1 a2 a3 a4 u1_5
def f_TL_fill_c2 (σ29 : XS) (a1 : Int32) (a2 : Int32) (a3 : Int32) (a4 : Int32) (u1_5 : Int32) : XS := f_TL_fill_c3 (xs_globals σ29 (upd (x_globals σ29) (Int32.toNatClampNeg u1_5) ((a3 &&& a4) &&& (1 : Int32)))) a1 a2 a3 a4 u1_5
def f_TL_fill_c1 (σ17 : XS) (a1 : Int32) (a2 : Int32) (a3 : Int32) (a4 : Int32) (u1_5 : Int32) : XS := f_TL_fill_c2 (xs_asids σ17 (upd (x_asids σ17) (Int32.toNatClampNeg u1_5) (a2 &&& (255 : Int32)))) a1 a2 a3 a4 u1_5
def f_TL_fill (σ : XS) (a1 : Int32) (a2 : Int32) (a3 : Int32) (a4 : Int32) : XS := f_TL_fill_c1 (xs_pages σ (upd (x_pages σ) (Int32.toNatClampNeg (a1 &&& (31 : Int32))) (a2 &&& (-8192 : Int32)))) a1 a2 a3 a4 (a1 &&& (31 : Int32))
theorem d_TL_fill_0 : decode b_TL_fill 0 = .ok (.iload_n 1, 1) := by decide +kernel
theorem d_TL_fill_1 : decode b_TL_fill 1 = .ok (.bipush 31, 2) := by decide +kernel
theorem d_TL_fill_3 : decode b_TL_fill 3 = .ok (.iand, 1) := by decide +kernel
theorem d_TL_fill_4 : decode b_TL_fill 4 = .ok (.istore 5, 2) := by decide +kernel
theorem d_TL_fill_6 : decode b_TL_fill 6 = .ok (.aload_n 0, 1) := by decide +kernel
theorem d_TL_fill_7 : decode b_TL_fill 7 = .ok (.getfield 11, 3) := by decide +kernel
theorem d_TL_fill_10 : decode b_TL_fill 10 = .ok (.iload 5, 2) := by decide +kernel
theorem d_TL_fill_12 : decode b_TL_fill 12 = .ok (.iload_n 2, 1) := by decide +kernel
theorem d_TL_fill_13 : decode b_TL_fill 13 = .ok (.sipush (-8192), 3) := by decide +kernel
theorem d_TL_fill_16 : decode b_TL_fill 16 = .ok (.iand, 1) := by decide +kernel
theorem d_TL_fill_17 : decode b_TL_fill 17 = .ok (.iastore, 1) := by decide +kernel
theorem d_TL_fill_18 : decode b_TL_fill 18 = .ok (.aload_n 0, 1) := by decide +kernel
theorem d_TL_fill_19 : decode b_TL_fill 19 = .ok (.getfield 15, 3) := by decide +kernel
theorem d_TL_fill_22 : decode b_TL_fill 22 = .ok (.iload 5, 2) := by decide +kernel
theorem d_TL_fill_24 : decode b_TL_fill 24 = .ok (.iload_n 2, 1) := by decide +kernel
theorem d_TL_fill_25 : decode b_TL_fill 25 = .ok (.sipush 255, 3) := by decide +kernel
theorem d_TL_fill_28 : decode b_TL_fill 28 = .ok (.iand, 1) := by decide +kernel
theorem d_TL_fill_29 : decode b_TL_fill 29 = .ok (.iastore, 1) := by decide +kernel
theorem d_TL_fill_30 : decode b_TL_fill 30 = .ok (.aload_n 0, 1) := by decide +kernel
theorem d_TL_fill_31 : decode b_TL_fill 31 = .ok (.getfield 18, 3) := by decide +kernel
theorem d_TL_fill_34 : decode b_TL_fill 34 = .ok (.iload 5, 2) := by decide +kernel
theorem d_TL_fill_36 : decode b_TL_fill 36 = .ok (.iload_n 3, 1) := by decide +kernel
theorem d_TL_fill_37 : decode b_TL_fill 37 = .ok (.iload 4, 2) := by decide +kernel
theorem d_TL_fill_39 : decode b_TL_fill 39 = .ok (.iand, 1) := by decide +kernel
theorem d_TL_fill_40 : decode b_TL_fill 40 = .ok (.iconst 1, 1) := by decide +kernel
theorem d_TL_fill_41 : decode b_TL_fill 41 = .ok (.iand, 1) := by decide +kernel
theorem d_TL_fill_42 : decode b_TL_fill 42 = .ok (.iastore, 1) := by decide +kernel
theorem d_TL_fill_43 : decode b_TL_fill 43 = .ok (.aload_n 0, 1) := by decide +kernel
theorem d_TL_fill_44 : decode b_TL_fill 44 = .ok (.getfield 21, 3) := by decide +kernel
theorem d_TL_fill_47 : decode b_TL_fill 47 = .ok (.iload 5, 2) := by decide +kernel
theorem d_TL_fill_49 : decode b_TL_fill 49 = .ok (.iload_n 3, 1) := by decide +kernel
theorem d_TL_fill_50 : decode b_TL_fill 50 = .ok (.ldc 27, 2) := by decide +kernel
theorem d_TL_fill_52 : decode b_TL_fill 52 = .ok (.iand, 1) := by decide +kernel
theorem d_TL_fill_53 : decode b_TL_fill 53 = .ok (.iastore, 1) := by decide +kernel
theorem d_TL_fill_54 : decode b_TL_fill 54 = .ok (.aload_n 0, 1) := by decide +kernel
theorem d_TL_fill_55 : decode b_TL_fill 55 = .ok (.getfield 24, 3) := by decide +kernel
theorem d_TL_fill_58 : decode b_TL_fill 58 = .ok (.iload 5, 2) := by decide +kernel
theorem d_TL_fill_60 : decode b_TL_fill 60 = .ok (.iload 4, 2) := by decide +kernel
theorem d_TL_fill_62 : decode b_TL_fill 62 = .ok (.ldc 27, 2) := by decide +kernel
theorem d_TL_fill_64 : decode b_TL_fill 64 = .ok (.iand, 1) := by decide +kernel
theorem d_TL_fill_65 : decode b_TL_fill 65 = .ok (.iastore, 1) := by decide +kernel
theorem d_TL_fill_66 : decode b_TL_fill 66 = .ok (.return_, 1) := by decide +kernel
set_option maxHeartbeats 4000000 in
set_option maxRecDepth 100000 in
theorem c_TL_fill (l : Launch) (E : Ev) (ad : Nat → Nat) (σ : XS) (a1 : Int32) (a2 : Int32) (a3 : Int32) (a4 : Int32) : rC xCl l E (xW E ad) y_TL_fill b_TL_fill 6 (Option.none : Option Jvm.ClassFile.FieldType) (rmo 0 0) [.ref (ad 3), .int a1, .int a2, .int a3, .int a4] σ (zV (f_TL_fill σ a1 a2 a3 a4)) := by
  refine rC.of (by decide) (Nat.le_of_ble_eq_true rfl) ?_
  intro p e s m below meth c A ls hc w hl
  generalize e0 : zV (f_TL_fill σ a1 a2 a3 a4) = Z
  have hc : Cx xCl E A p s m ([.ref (ad 3), .int a1, .int a2, .int a3, .int a4] : List Value).toArray meth c b_TL_fill 6 (Option.none : Option Jvm.ClassFile.FieldType) "PageMachine$Tlb" := hc
  have hx := hc.1
  have hb := hc.2.1
  have ho := hc.2.2.2.2.2.1
  have hT := hc.2.2.2.2.2.2.1
  have hl : lv_has ls 6 [(0, .ref (ad 3)), (1, .int a1), (2, .int a2), (3, .int a3), (4, .int a4)] := hl
  refine lv_iload_n hx hb d_TL_fill_0 rfl (lv_at hl 1 rfl) ?_
  refine lv_bipush (v := 31) hx hb d_TL_fill_1 (by decide) ?_
  refine lv_iand hx hb d_TL_fill_3 ?_
  refine lv_istore (lv' := [(5, .int (a1 &&& (31 : Int32))), (0, .ref (ad 3)), (1, .int a1), (2, .int a2), (3, .int a3), (4, .int a4)]) hx hb d_TL_fill_4 hl (by decide) rfl (fun ls hl => ?_)
  refine lv_aload_n hx hb d_TL_fill_6 rfl (lv_at hl 1 rfl) ?_
  refine g_TL_pages hc w mw_63 d_TL_fill_7 ?_
  refine lv_iload hx hb d_TL_fill_10 (lv_at hl 0 rfl) ?_
  refine lv_iload_n hx hb d_TL_fill_12 rfl (lv_at hl 3 rfl) ?_
  refine lv_sipush (v := -8192) hx hb d_TL_fill_13 (by decide) ?_
  refine lv_iand hx hb d_TL_fill_16 ?_
  refine s_TL_pages hc w (bd31 _) d_TL_fill_17 (fun σ17 H locs hs17 w => ?_)
  generalize hv_u1_5 : a1 &&& (31 : Int32) = u1_5 at hl ⊢
  have e_c1 : zV (f_TL_fill_c1 σ17 a1 a2 a3 a4 u1_5) = Z := by rw [← e0, f_TL_fill, hs17, hv_u1_5]
  refine lv_aload_n hx hb d_TL_fill_18 rfl (lv_at hl 1 rfl) ?_
  refine g_TL_asids hc w mw_64 d_TL_fill_19 ?_
  refine lv_iload hx hb d_TL_fill_22 (lv_at hl 0 rfl) ?_
  refine lv_iload_n hx hb d_TL_fill_24 rfl (lv_at hl 3 rfl) ?_
  refine lv_sipush (v := 255) hx hb d_TL_fill_25 (by decide) ?_
  refine lv_iand hx hb d_TL_fill_28 ?_
  refine s_TL_asids hc w (by rw [← hv_u1_5]; exact bd31 _) d_TL_fill_29 (fun σ29 H locs hs29 w => ?_)
  have e_c2 : zV (f_TL_fill_c2 σ29 a1 a2 a3 a4 u1_5) = Z := by rw [← e_c1, f_TL_fill_c1, hs29]
  refine lv_aload_n hx hb d_TL_fill_30 rfl (lv_at hl 1 rfl) ?_
  refine g_TL_globals hc w mw_65 d_TL_fill_31 ?_
  refine lv_iload hx hb d_TL_fill_34 (lv_at hl 0 rfl) ?_
  refine lv_iload_n hx hb d_TL_fill_36 rfl (lv_at hl 4 rfl) ?_
  refine lv_iload hx hb d_TL_fill_37 (lv_at hl 5 rfl) ?_
  refine lv_iand hx hb d_TL_fill_39 ?_
  refine lv_iconst (v := 1) hx hb d_TL_fill_40 (by decide) ?_
  refine lv_iand hx hb d_TL_fill_41 ?_
  refine s_TL_globals hc w (by rw [← hv_u1_5]; exact bd31 _) d_TL_fill_42 (fun σ42 H locs hs42 w => ?_)
  have e_c3 : zV (f_TL_fill_c3 σ42 a1 a2 a3 a4 u1_5) = Z := by rw [← e_c2, f_TL_fill_c2, hs42]
  refine lv_aload_n hx hb d_TL_fill_43 rfl (lv_at hl 1 rfl) ?_
  refine g_TL_evenHalves hc w mw_66 d_TL_fill_44 ?_
  refine lv_iload hx hb d_TL_fill_47 (lv_at hl 0 rfl) ?_
  refine lv_iload_n hx hb d_TL_fill_49 rfl (lv_at hl 4 rfl) ?_
  refine lv_ldc (v := 67108862) hx hb ho (hT _ mw_753) d_TL_fill_50 ?_
  refine lv_iand hx hb d_TL_fill_52 ?_
  refine s_TL_evenHalves hc w (by rw [← hv_u1_5]; exact bd31 _) d_TL_fill_53 (fun σ53 H locs hs53 w => ?_)
  have e_c4 : zV (f_TL_fill_c4 σ53 a1 a2 a3 a4 u1_5) = Z := by rw [← e_c3, f_TL_fill_c3, hs53]
  refine lv_aload_n hx hb d_TL_fill_54 rfl (lv_at hl 1 rfl) ?_
  refine g_TL_oddHalves hc w mw_67 d_TL_fill_55 ?_
  refine lv_iload hx hb d_TL_fill_58 (lv_at hl 0 rfl) ?_
  refine lv_iload hx hb d_TL_fill_60 (lv_at hl 5 rfl) ?_
  refine lv_ldc (v := 67108862) hx hb ho (hT _ mw_753) d_TL_fill_62 ?_
  refine lv_iand hx hb d_TL_fill_64 ?_
  refine s_TL_oddHalves hc w (by rw [← hv_u1_5]; exact bd31 _) d_TL_fill_65 (fun σ65 H locs hs65 w => ?_)
  have e_c5 : zV (f_TL_fill_c5 σ65 a1 a2 a3 a4 ) = Z := by rw [← e_c4, f_TL_fill_c4, hs65]
  exact rt_v hc w d_TL_fill_66 (by rw [← e_c5, f_TL_fill_c5] <;> rfl)
-- TL_match
theorem bd_lt {v M : Int32} {i N : Nat} (hi : v = nI i) (hM : M = nI N) (h : ¬ M ≤ v) (hN : N < 2 ^ 31) (hj : i < 2 ^ 31) : i < N ∧ vp_in v N ∧ v + 1 = nI (i + 1) := by
  subst hi; subst hM
  have h1 : i < N := Nat.not_le.mp fun q => h (nI_le q hj)
  exact ⟨h1, vp_in_nI h1 hN, nI_1 i⟩
def f_TL_match_16 : Nat → XS → Int32 → Int32 → Int32 → Int32 → Int32 → Int32
  | 0, σ, a1, a2, v16_5, v16_4, v16_3 => 0
  | fuel + 1, σ, a1, a2, v16_5, v16_4, v16_3 => if (32 : Int32) ≤ v16_5 then ((-1 : Int32)) else (if (x_pages σ (Int32.toNatClampNeg v16_5)) = v16_3 then (if (x_globals σ (Int32.toNatClampNeg v16_5)) = 0 then (if (x_asids σ (Int32.toNatClampNeg v16_5)) = v16_4 then (v16_5) else (f_TL_match_16 fuel σ a1 a2 (v16_5 + (1 : Int32)) v16_4 v16_3)) else (v16_5)) else (f_TL_match_16 fuel σ a1 a2 (v16_5 + (1 : Int32)) v16_4 v16_3))
def f_TL_match (σ : XS) (a1 : Int32) (a2 : Int32) : Int32 := f_TL_match_16 33 σ a1 a2 (0 : Int32) (a2 &&& (255 : Int32)) (a1 &&& (-8192 : Int32))
theorem d_TL_match_0 : decode b_TL_match 0 = .ok (.iload_n 1, 1) := by decide +kernel
theorem d_TL_match_1 : decode b_TL_match 1 = .ok (.sipush (-8192), 3) := by decide +kernel
theorem d_TL_match_4 : decode b_TL_match 4 = .ok (.iand, 1) := by decide +kernel
theorem d_TL_match_5 : decode b_TL_match 5 = .ok (.istore_n 3, 1) := by decide +kernel
theorem d_TL_match_6 : decode b_TL_match 6 = .ok (.iload_n 2, 1) := by decide +kernel
theorem d_TL_match_7 : decode b_TL_match 7 = .ok (.sipush 255, 3) := by decide +kernel
theorem d_TL_match_10 : decode b_TL_match 10 = .ok (.iand, 1) := by decide +kernel
theorem d_TL_match_11 : decode b_TL_match 11 = .ok (.istore 4, 2) := by decide +kernel
theorem d_TL_match_13 : decode b_TL_match 13 = .ok (.iconst 0, 1) := by decide +kernel
theorem d_TL_match_14 : decode b_TL_match 14 = .ok (.istore 5, 2) := by decide +kernel
theorem d_TL_match_16 : decode b_TL_match 16 = .ok (.iload 5, 2) := by decide +kernel
theorem d_TL_match_18 : decode b_TL_match 18 = .ok (.bipush 32, 2) := by decide +kernel
theorem d_TL_match_20 : decode b_TL_match 20 = .ok (.if_icmp .ge 45, 3) := by decide +kernel
theorem d_TL_match_23 : decode b_TL_match 23 = .ok (.aload_n 0, 1) := by decide +kernel
theorem d_TL_match_24 : decode b_TL_match 24 = .ok (.getfield 11, 3) := by decide +kernel
theorem d_TL_match_27 : decode b_TL_match 27 = .ok (.iload 5, 2) := by decide +kernel
theorem d_TL_match_29 : decode b_TL_match 29 = .ok (.iaload, 1) := by decide +kernel
theorem d_TL_match_30 : decode b_TL_match 30 = .ok (.iload_n 3, 1) := by decide +kernel
theorem d_TL_match_31 : decode b_TL_match 31 = .ok (.if_icmp .ne 28, 3) := by decide +kernel
theorem d_TL_match_34 : decode b_TL_match 34 = .ok (.aload_n 0, 1) := by decide +kernel
theorem d_TL_match_35 : decode b_TL_match 35 = .ok (.getfield 18, 3) := by decide +kernel
theorem d_TL_match_38 : decode b_TL_match 38 = .ok (.iload 5, 2) := by decide +kernel
theorem d_TL_match_40 : decode b_TL_match 40 = .ok (.iaload, 1) := by decide +kernel
theorem d_TL_match_41 : decode b_TL_match 41 = .ok (.ifCond .ne 15, 3) := by decide +kernel
theorem d_TL_match_44 : decode b_TL_match 44 = .ok (.aload_n 0, 1) := by decide +kernel
theorem d_TL_match_45 : decode b_TL_match 45 = .ok (.getfield 15, 3) := by decide +kernel
theorem d_TL_match_48 : decode b_TL_match 48 = .ok (.iload 5, 2) := by decide +kernel
theorem d_TL_match_50 : decode b_TL_match 50 = .ok (.iaload, 1) := by decide +kernel
theorem d_TL_match_51 : decode b_TL_match 51 = .ok (.iload 4, 2) := by decide +kernel
theorem d_TL_match_53 : decode b_TL_match 53 = .ok (.if_icmp .ne 6, 3) := by decide +kernel
theorem d_TL_match_56 : decode b_TL_match 56 = .ok (.iload 5, 2) := by decide +kernel
theorem d_TL_match_58 : decode b_TL_match 58 = .ok (.ireturn, 1) := by decide +kernel
theorem d_TL_match_59 : decode b_TL_match 59 = .ok (.iinc 5 1, 3) := by decide +kernel
theorem d_TL_match_62 : decode b_TL_match 62 = .ok (.goto (-46), 3) := by decide +kernel
theorem d_TL_match_65 : decode b_TL_match 65 = .ok (.iconst (-1), 1) := by decide +kernel
theorem d_TL_match_66 : decode b_TL_match 66 = .ok (.ireturn, 1) := by decide +kernel
set_option maxHeartbeats 4000000 in
set_option maxRecDepth 100000 in
theorem c_TL_match (l : Launch) (E : Ev) (ad : Nat → Nat) (σ : XS) (a1 : Int32) (a2 : Int32) : rC xCl l E (xW E ad) y_TL_match b_TL_match 6 (Option.some Jvm.ClassFile.FieldType.int) (rmo 0 0) [.ref (ad 3), .int a1, .int a2] σ ((σ, some (Value.int (f_TL_match σ a1 a2)))) := by
  refine rC.of (by decide) (Nat.le_of_ble_eq_true rfl) ?_
  intro p e s m below meth c A ls hc w hl
  generalize e0 : (σ, some (Value.int (f_TL_match σ a1 a2))) = Z
  have hc : Cx xCl E A p s m ([.ref (ad 3), .int a1, .int a2] : List Value).toArray meth c b_TL_match 6 (Option.some Jvm.ClassFile.FieldType.int) "PageMachine$Tlb" := hc
  have hx := hc.1
  have hb := hc.2.1
  have ho := hc.2.2.2.2.2.1
  have hT := hc.2.2.2.2.2.2.1
  have hl : lv_has ls 6 [(0, .ref (ad 3)), (1, .int a1), (2, .int a2)] := hl
  have J16 : ∀ (fuel : Nat) (v16_5 : Int32) (v16_4 : Int32) (v16_3 : Int32) , (∃ i : Nat, v16_5 = nI i ∧ i ≤ 32 ∧ i + fuel = 33) → ∀ (H : Heap) (locs : List Loc) (ls : Array Slot), Wd xCl E A s.heap H locs (xW E ad σ) → lv_has ls 6 [(5, .int v16_5), (4, .int v16_4), (3, .int v16_3), (0, .ref (ad 3))] → (σ, some (Value.int (f_TL_match_16 fuel σ a1 a2 v16_5 v16_4 v16_3))) = Z → W p l e (rmo 0 0) s m ([.ref (ad 3), .int a1, .int a2] : List Value).toArray below meth c H locs 0 0 (MQ below (rQ xCl (xW E ad) E A Z) ([.ref (ad 3), .int a1, .int a2] : List Value).toArray s 0 0 A) (F0 m 16 ls []) := by
    intro fuel
    induction fuel with
    | zero =>
      intro v16_5 v16_4 v16_3 hinv
      exact absurd hinv (fun ⟨i, _, h1, h2⟩ => by omega)
    | succ fuel ih =>
      intro v16_5 v16_4 v16_3 hinv H locs ls w hl e16
      obtain ⟨i, hi, h1, h2⟩ := hinv
      refine lv_iload hx hb d_TL_match_16 (lv_at hl 0 rfl) ?_
      refine lv_bipush (v := 32) hx hb d_TL_match_18 (by decide) ?_
      refine lv_icmp_ge (tgt := 65) hx hb d_TL_match_20 (by decide) (fun q20 => ?_) (fun q20 => ?_)
      · refine lv_iconst (v := -1) hx hb d_TL_match_65 (by decide) ?_
        exact rt_i hc w d_TL_match_66 (by rw [← e16, f_TL_match_16, if_pos q20] <;> rfl)
      · refine lv_aload_n hx hb d_TL_match_23 rfl (lv_at hl 3 rfl) ?_
        refine g_TL_pages hc w mw_63 d_TL_match_24 ?_
        refine lv_iload hx hb d_TL_match_27 (lv_at hl 0 rfl) ?_
        refine a_TL_pages hc w ((bd_lt hi (N := 32) rfl q20 (by decide) (by omega)).2.1) d_TL_match_29 ?_
        refine lv_iload_n hx hb d_TL_match_30 rfl (lv_at hl 2 rfl) ?_
        refine lv_icmp_ne (tgt := 59) hx hb d_TL_match_31 (by decide) (fun q31 => ?_) (fun q31 => ?_)
        · refine lv_iinc (v := v16_5 + (1 : Int32)) (lv' := [(5, .int (v16_5 + (1 : Int32))), (4, .int v16_4), (3, .int v16_3), (0, .ref (ad 3))]) hx hb d_TL_match_59 hl (k := 0) rfl rfl (by decide) rfl (fun ls hl => ?_)
          refine lv_goto (tgt := 16) hx hb d_TL_match_62 (by decide) ?_
          exact ih (v16_5 + (1 : Int32)) v16_4 v16_3 (⟨i + 1, (bd_lt hi (N := 32) rfl q20 (by decide) (by omega)).2.2, (bd_lt hi (N := 32) rfl q20 (by decide) (by omega)).1, by omega⟩) _ _ _ w (lv_sub hl [0, 1, 2, 3] rfl) (by rw [← e16, f_TL_match_16, if_neg q20, if_neg q31])
        · refine lv_aload_n hx hb d_TL_match_34 rfl (lv_at hl 3 rfl) ?_
          refine g_TL_globals hc w mw_65 d_TL_match_35 ?_
          refine lv_iload hx hb d_TL_match_38 (lv_at hl 0 rfl) ?_
          refine a_TL_globals hc w ((bd_lt hi (N := 32) rfl q20 (by decide) (by omega)).2.1) d_TL_match_40 ?_
          refine lv_if_ne (tgt := 56) hx hb d_TL_match_41 (by decide) (fun q41 => ?_) (fun q41 => ?_)
          · refine lv_iload hx hb d_TL_match_56 (lv_at hl 0 rfl) ?_
            exact rt_i hc w d_TL_match_58 (by rw [← e16, f_TL_match_16, if_neg q20, if_pos q31, if_neg q41] <;> rfl)
          · refine lv_aload_n hx hb d_TL_match_44 rfl (lv_at hl 3 rfl) ?_
            refine g_TL_asids hc w mw_64 d_TL_match_45 ?_
            refine lv_iload hx hb d_TL_match_48 (lv_at hl 0 rfl) ?_
            refine a_TL_asids hc w ((bd_lt hi (N := 32) rfl q20 (by decide) (by omega)).2.1) d_TL_match_50 ?_
            refine lv_iload hx hb d_TL_match_51 (lv_at hl 1 rfl) ?_
            refine lv_icmp_ne (tgt := 59) hx hb d_TL_match_53 (by decide) (fun q53 => ?_) (fun q53 => ?_)
            · refine lv_iinc (v := v16_5 + (1 : Int32)) (lv' := [(5, .int (v16_5 + (1 : Int32))), (4, .int v16_4), (3, .int v16_3), (0, .ref (ad 3))]) hx hb d_TL_match_59 hl (k := 0) rfl rfl (by decide) rfl (fun ls hl => ?_)
              refine lv_goto (tgt := 16) hx hb d_TL_match_62 (by decide) ?_
              exact ih (v16_5 + (1 : Int32)) v16_4 v16_3 (⟨i + 1, (bd_lt hi (N := 32) rfl q20 (by decide) (by omega)).2.2, (bd_lt hi (N := 32) rfl q20 (by decide) (by omega)).1, by omega⟩) _ _ _ w (lv_sub hl [0, 1, 2, 3] rfl) (by rw [← e16, f_TL_match_16, if_neg q20, if_pos q31, if_pos q41, if_neg q53])
            · refine lv_iload hx hb d_TL_match_56 (lv_at hl 0 rfl) ?_
              exact rt_i hc w d_TL_match_58 (by rw [← e16, f_TL_match_16, if_neg q20, if_pos q31, if_pos q41, if_pos q53] <;> rfl)
  refine lv_iload_n hx hb d_TL_match_0 rfl (lv_at hl 1 rfl) ?_
  refine lv_sipush (v := -8192) hx hb d_TL_match_1 (by decide) ?_
  refine lv_iand hx hb d_TL_match_4 ?_
  refine lv_istore_n (lv' := [(3, .int (a1 &&& (-8192 : Int32))), (0, .ref (ad 3)), (1, .int a1), (2, .int a2)]) hx hb d_TL_match_5 rfl hl (by decide) rfl (fun ls hl => ?_)
  refine lv_iload_n hx hb d_TL_match_6 rfl (lv_at hl 3 rfl) ?_
  refine lv_sipush (v := 255) hx hb d_TL_match_7 (by decide) ?_
  refine lv_iand hx hb d_TL_match_10 ?_
  refine lv_istore (lv' := [(4, .int (a2 &&& (255 : Int32))), (3, .int (a1 &&& (-8192 : Int32))), (0, .ref (ad 3)), (1, .int a1), (2, .int a2)]) hx hb d_TL_match_11 hl (by decide) rfl (fun ls hl => ?_)
  refine lv_iconst (v := 0) hx hb d_TL_match_13 (by decide) ?_
  refine lv_istore (lv' := [(5, .int (0 : Int32)), (4, .int (a2 &&& (255 : Int32))), (3, .int (a1 &&& (-8192 : Int32))), (0, .ref (ad 3)), (1, .int a1), (2, .int a2)]) hx hb d_TL_match_14 hl (by decide) rfl (fun ls hl => ?_)
  exact J16 33 (0 : Int32) (a2 &&& (255 : Int32)) (a1 &&& (-8192 : Int32)) (⟨0, rfl, by omega, by omega⟩) _ _ _ w (lv_sub hl [0, 1, 2, 3] rfl) (by rw [← e0, f_TL_match])
