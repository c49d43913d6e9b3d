-- FA_codeOf
def f_FA_codeOf (σ : XS) (a1 : Int32) : Int32 := a1 &&& (15 : Int32)
theorem d_FA_codeOf_0 : decode b_FA_codeOf 0 = .ok (.iload_n 0, 1) := by decide +kernel
theorem d_FA_codeOf_1 : decode b_FA_codeOf 1 = .ok (.bipush 15, 2) := by decide +kernel
theorem d_FA_codeOf_3 : decode b_FA_codeOf 3 = .ok (.iand, 1) := by decide +kernel
theorem d_FA_codeOf_4 : decode b_FA_codeOf 4 = .ok (.ireturn, 1) := by decide +kernel
set_option maxHeartbeats 4000000 in
set_option maxRecDepth 100000 in
theorem c_FA_codeOf (l : Launch) (E : Ev) (ad : Nat → Nat) (σ : XS) (a1 : Int32) : rC xCl l E (xW E ad) y_FA_codeOf b_FA_codeOf 1 (Option.some Jvm.ClassFile.FieldType.int) (rmo 0 0) [.int a1] σ ((σ, some (Value.int (f_FA_codeOf σ a1)))) := by
  refine rC.of (by decide) (Nat.le_of_ble_eq_true rfl) ?_
  intro p e s m below meth c A ls hc w hl
  generalize e0 : (σ, some (Value.int (f_FA_codeOf σ a1))) = Z
  have hc : Cx xCl E A p s m ([.int a1] : List Value).toArray meth c b_FA_codeOf 1 (Option.some Jvm.ClassFile.FieldType.int) "PageMachine$Fault" := hc
  have hx := hc.1
  have hb := hc.2.1
  have ho := hc.2.2.2.2.2.1
  have hT := hc.2.2.2.2.2.2.1
  have hl : lv_has ls 1 [(0, .int a1)] := hl
  refine lv_iload_n hx hb d_FA_codeOf_0 rfl (lv_at hl 0 rfl) ?_
  refine lv_bipush (v := 15) hx hb d_FA_codeOf_1 (by decide) ?_
  refine lv_iand hx hb d_FA_codeOf_3 ?_
  exact rt_i hc w d_FA_codeOf_4 (by rw [← e0, f_FA_codeOf] <;> rfl)
-- FA_isRefill
def f_FA_isRefill (σ : XS) (a1 : Int32) : Bool := if (a1 &&& (16 : Int32)) = 0 then (false) else (true)
theorem d_FA_isRefill_0 : decode b_FA_isRefill 0 = .ok (.iload_n 0, 1) := by decide +kernel
theorem d_FA_isRefill_1 : decode b_FA_isRefill 1 = .ok (.bipush 16, 2) := by decide +kernel
theorem d_FA_isRefill_3 : decode b_FA_isRefill 3 = .ok (.iand, 1) := by decide +kernel
theorem d_FA_isRefill_4 : decode b_FA_isRefill 4 = .ok (.ifCond .eq 7, 3) := by decide +kernel
theorem d_FA_isRefill_7 : decode b_FA_isRefill 7 = .ok (.iconst 1, 1) := by decide +kernel
theorem d_FA_isRefill_8 : decode b_FA_isRefill 8 = .ok (.goto 4, 3) := by decide +kernel
theorem d_FA_isRefill_11 : decode b_FA_isRefill 11 = .ok (.iconst 0, 1) := by decide +kernel
theorem d_FA_isRefill_12 : decode b_FA_isRefill 12 = .ok (.ireturn, 1) := by decide +kernel
set_option maxHeartbeats 4000000 in
set_option maxRecDepth 100000 in
theorem c_FA_isRefill (l : Launch) (E : Ev) (ad : Nat → Nat) (σ : XS) (a1 : Int32) : rC xCl l E (xW E ad) y_FA_isRefill b_FA_isRefill 1 (Option.some Jvm.ClassFile.FieldType.boolean) (rmo 0 0) [.int a1] σ ((σ, some (Value.int (zb (f_FA_isRefill σ a1))))) := by
  refine rC.of (by decide) (Nat.le_of_ble_eq_true rfl) ?_
  intro p e s m below meth c A ls hc w hl
  generalize e0 : (σ, some (Value.int (zb (f_FA_isRefill σ a1)))) = Z
  have hc : Cx xCl E A p s m ([.int a1] : List Value).toArray meth c b_FA_isRefill 1 (Option.some Jvm.ClassFile.FieldType.boolean) "PageMachine$Fault" := hc
  have hx := hc.1
  have hb := hc.2.1
  have ho := hc.2.2.2.2.2.1
  have hT := hc.2.2.2.2.2.2.1
  have hl : lv_has ls 1 [(0, .int a1)] := hl
  refine lv_iload_n hx hb d_FA_isRefill_0 rfl (lv_at hl 0 rfl) ?_
  refine lv_bipush (v := 16) hx hb d_FA_isRefill_1 (by decide) ?_
  refine lv_iand hx hb d_FA_isRefill_3 ?_
  refine lv_if_eq (tgt := 11) hx hb d_FA_isRefill_4 (by decide) (fun q4 => ?_) (fun q4 => ?_)
  · refine lv_iconst (v := 0) hx hb d_FA_isRefill_11 (by decide) ?_
    exact rt_z (v := false) hc w d_FA_isRefill_12 rfl (by rw [← e0, f_FA_isRefill, if_pos q4] <;> rfl)
  · refine lv_iconst (v := 1) hx hb d_FA_isRefill_7 (by decide) ?_
    refine lv_goto (tgt := 12) hx hb d_FA_isRefill_8 (by decide) ?_
    exact rt_z (v := true) hc w d_FA_isRefill_12 rfl (by rw [← e0, f_FA_isRefill, if_neg q4] <;> rfl)
-- FA_coprocessorOf
def f_FA_coprocessorOf (σ : XS) (a1 : Int32) : Int32 := (a1 / (32 : Int32)) &&& (3 : Int32)
theorem d_FA_coprocessorOf_0 : decode b_FA_coprocessorOf 0 = .ok (.iload_n 0, 1) := by decide +kernel
theorem d_FA_coprocessorOf_1 : decode b_FA_coprocessorOf 1 = .ok (.bipush 32, 2) := by decide +kernel
theorem d_FA_coprocessorOf_3 : decode b_FA_coprocessorOf 3 = .ok (.idiv, 1) := by decide +kernel
theorem d_FA_coprocessorOf_4 : decode b_FA_coprocessorOf 4 = .ok (.iconst 3, 1) := by decide +kernel
theorem d_FA_coprocessorOf_5 : decode b_FA_coprocessorOf 5 = .ok (.iand, 1) := by decide +kernel
theorem d_FA_coprocessorOf_6 : decode b_FA_coprocessorOf 6 = .ok (.ireturn, 1) := by decide +kernel
set_option maxHeartbeats 4000000 in
set_option maxRecDepth 100000 in
theorem c_FA_coprocessorOf (l : Launch) (E : Ev) (ad : Nat → Nat) (σ : XS) (a1 : Int32) : rC xCl l E (xW E ad) y_FA_coprocessorOf b_FA_coprocessorOf 1 (Option.some Jvm.ClassFile.FieldType.int) (rmo 0 0) [.int a1] σ ((σ, some (Value.int (f_FA_coprocessorOf σ a1)))) := by
  refine rC.of (by decide) (Nat.le_of_ble_eq_true rfl) ?_
  intro p e s m below meth c A ls hc w hl
  generalize e0 : (σ, some (Value.int (f_FA_coprocessorOf σ a1))) = Z
  have hc : Cx xCl E A p s m ([.int a1] : List Value).toArray meth c b_FA_coprocessorOf 1 (Option.some Jvm.ClassFile.FieldType.int) "PageMachine$Fault" := hc
  have hx := hc.1
  have hb := hc.2.1
  have ho := hc.2.2.2.2.2.1
  have hT := hc.2.2.2.2.2.2.1
  have hl : lv_has ls 1 [(0, .int a1)] := hl
  refine lv_iload_n hx hb d_FA_coprocessorOf_0 rfl (lv_at hl 0 rfl) ?_
  refine lv_bipush (v := 32) hx hb d_FA_coprocessorOf_1 (by decide) ?_
  refine lv_idiv hx hb d_FA_coprocessorOf_3 (by decide) ?_
  refine lv_iconst (v := 3) hx hb d_FA_coprocessorOf_4 (by decide) ?_
  refine lv_iand hx hb d_FA_coprocessorOf_5 ?_
  exact rt_i hc w d_FA_coprocessorOf_6 (by rw [← e0, f_FA_coprocessorOf] <;> rfl)
-- FA_noCoprocessor
def f_FA_noCoprocessor (σ : XS) (a1 : Int32) : Int32 := (11 : Int32) + ((32 : Int32) * a1)
theorem d_FA_noCoprocessor_0 : decode b_FA_noCoprocessor 0 = .ok (.bipush 11, 2) := by decide +kernel
theorem d_FA_noCoprocessor_2 : decode b_FA_noCoprocessor 2 = .ok (.bipush 32, 2) := by decide +kernel
theorem d_FA_noCoprocessor_4 : decode b_FA_noCoprocessor 4 = .ok (.iload_n 0, 1) := by decide +kernel
theorem d_FA_noCoprocessor_5 : decode b_FA_noCoprocessor 5 = .ok (.imul, 1) := by decide +kernel
theorem d_FA_noCoprocessor_6 : decode b_FA_noCoprocessor 6 = .ok (.iadd, 1) := by decide +kernel
theorem d_FA_noCoprocessor_7 : decode b_FA_noCoprocessor 7 = .ok (.ireturn, 1) := by decide +kernel
set_option maxHeartbeats 4000000 in
set_option maxRecDepth 100000 in
theorem c_FA_noCoprocessor (l : Launch) (E : Ev) (ad : Nat → Nat) (σ : XS) (a1 : Int32) : rC xCl l E (xW E ad) y_FA_noCoprocessor b_FA_noCoprocessor 1 (Option.some Jvm.ClassFile.FieldType.int) (rmo 0 0) [.int a1] σ ((σ, some (Value.int (f_FA_noCoprocessor σ a1)))) := by
  refine rC.of (by decide) (Nat.le_of_ble_eq_true rfl) ?_
  intro p e s m below meth c A ls hc w hl
  generalize e0 : (σ, some (Value.int (f_FA_noCoprocessor σ a1))) = Z
  have hc : Cx xCl E A p s m ([.int a1] : List Value).toArray meth c b_FA_noCoprocessor 1 (Option.some Jvm.ClassFile.FieldType.int) "PageMachine$Fault" := hc
  have hx := hc.1
  have hb := hc.2.1
  have ho := hc.2.2.2.2.2.1
  have hT := hc.2.2.2.2.2.2.1
  have hl : lv_has ls 1 [(0, .int a1)] := hl
  refine lv_bipush (v := 11) hx hb d_FA_noCoprocessor_0 (by decide) ?_
  refine lv_bipush (v := 32) hx hb d_FA_noCoprocessor_2 (by decide) ?_
  refine lv_iload_n hx hb d_FA_noCoprocessor_4 rfl (lv_at hl 0 rfl) ?_
  refine lv_imul hx hb d_FA_noCoprocessor_5 ?_
  refine lv_iadd hx hb d_FA_noCoprocessor_6 ?_
  exact rt_i hc w d_FA_noCoprocessor_7 (by rw [← e0, f_FA_noCoprocessor] <;> rfl)
-- FA_trapIf
def f_FA_trapIf (σ : XS) (a1 : Bool) : Int32 := if (zb a1) = 0 then ((-1 : Int32)) else ((13 : Int32))
theorem d_FA_trapIf_0 : decode b_FA_trapIf 0 = .ok (.iload_n 0, 1) := by decide +kernel
theorem d_FA_trapIf_1 : decode b_FA_trapIf 1 = .ok (.ifCond .eq 8, 3) := by decide +kernel
theorem d_FA_trapIf_4 : decode b_FA_trapIf 4 = .ok (.bipush 13, 2) := by decide +kernel
theorem d_FA_trapIf_6 : decode b_FA_trapIf 6 = .ok (.goto 4, 3) := by decide +kernel
theorem d_FA_trapIf_9 : decode b_FA_trapIf 9 = .ok (.iconst (-1), 1) := by decide +kernel
theorem d_FA_trapIf_10 : decode b_FA_trapIf 10 = .ok (.ireturn, 1) := by decide +kernel
set_option maxHeartbeats 4000000 in
set_option maxRecDepth 100000 in
theorem c_FA_trapIf (l : Launch) (E : Ev) (ad : Nat → Nat) (σ : XS) (a1 : Bool) : rC xCl l E (xW E ad) y_FA_trapIf b_FA_trapIf 1 (Option.some Jvm.ClassFile.FieldType.int) (rmo 0 0) [.int (zb a1)] σ ((σ, some (Value.int (f_FA_trapIf σ a1)))) := by
  refine rC.of (by decide) (Nat.le_of_ble_eq_true rfl) ?_
  intro p e s m below meth c A ls hc w hl
  generalize e0 : (σ, some (Value.int (f_FA_trapIf σ a1))) = Z
  have hc : Cx xCl E A p s m ([.int (zb a1)] : List Value).toArray meth c b_FA_trapIf 1 (Option.some Jvm.ClassFile.FieldType.int) "PageMachine$Fault" := hc
  have hx := hc.1
  have hb := hc.2.1
  have ho := hc.2.2.2.2.2.1
  have hT := hc.2.2.2.2.2.2.1
  have hl : lv_has ls 1 [(0, .int (zb a1))] := hl
  refine lv_iload_n hx hb d_FA_trapIf_0 rfl (lv_at hl 0 rfl) ?_
  refine lv_if_eq (tgt := 9) hx hb d_FA_trapIf_1 (by decide) (fun q1 => ?_) (fun q1 => ?_)
  · refine lv_iconst (v := -1) hx hb d_FA_trapIf_9 (by decide) ?_
    exact rt_i hc w d_FA_trapIf_10 (by rw [← e0, f_FA_trapIf, if_pos q1] <;> rfl)
  · refine lv_bipush (v := 13) hx hb d_FA_trapIf_4 (by decide) ?_
    refine lv_goto (tgt := 10) hx hb d_FA_trapIf_6 (by decide) ?_
    exact rt_i hc w d_FA_trapIf_10 (by rw [← e0, f_FA_trapIf, if_neg q1] <;> rfl)
-- CO_register
def f_CO_register (σ : XS) (a1 : Int32) : Int32 := x_regs σ (Int32.toNatClampNeg (a1 &&& (31 : Int32)))
theorem d_CO_register_0 : decode b_CO_register 0 = .ok (.aload_n 0, 1) := by decide +kernel
theorem d_CO_register_1 : decode b_CO_register 1 = .ok (.getfield 14, 3) := by decide +kernel
theorem d_CO_register_4 : decode b_CO_register 4 = .ok (.iload_n 1, 1) := by decide +kernel
theorem d_CO_register_5 : decode b_CO_register 5 = .ok (.bipush 31, 2) := by decide +kernel
theorem d_CO_register_7 : decode b_CO_register 7 = .ok (.iand, 1) := by decide +kernel
theorem d_CO_register_8 : decode b_CO_register 8 = .ok (.iaload, 1) := by decide +kernel
theorem d_CO_register_9 : decode b_CO_register 9 = .ok (.ireturn, 1) := by decide +kernel
set_option maxHeartbeats 4000000 in
set_option maxRecDepth 100000 in
theorem c_CO_register (l : Launch) (E : Ev) (ad : Nat → Nat) (σ : XS) (a1 : Int32) : rC xCl l E (xW E ad) y_CO_register b_CO_register 2 (Option.some Jvm.ClassFile.FieldType.int) (rmo 0 0) [.ref (ad 5), .int a1] σ ((σ, some (Value.int (f_CO_register σ a1)))) := by
  refine rC.of (by decide) (Nat.le_of_ble_eq_true rfl) ?_
  intro p e s m below meth c A ls hc w hl
  generalize e0 : (σ, some (Value.int (f_CO_register σ a1))) = Z
  have hc : Cx xCl E A p s m ([.ref (ad 5), .int a1] : List Value).toArray meth c b_CO_register 2 (Option.some Jvm.ClassFile.FieldType.int) "PageMachine$Core" := hc
  have hx := hc.1
  have hb := hc.2.1
  have ho := hc.2.2.2.2.2.1
  have hT := hc.2.2.2.2.2.2.1
  have hl : lv_has ls 2 [(0, .ref (ad 5)), (1, .int a1)] := hl
  refine lv_aload_n hx hb d_CO_register_0 rfl (lv_at hl 0 rfl) ?_
  refine g_CO_registers hc w mw_123 d_CO_register_1 ?_
  refine lv_iload_n hx hb d_CO_register_4 rfl (lv_at hl 1 rfl) ?_
  refine lv_bipush (v := 31) hx hb d_CO_register_5 (by decide) ?_
  refine lv_iand hx hb d_CO_register_7 ?_
  refine a_CO_registers hc w (bd31 _) d_CO_register_8 ?_
  exact rt_i hc w d_CO_register_9 (by rw [← e0, f_CO_register] <;> rfl)
-- CO_put
def f_CO_put_c1 (σ16 : XS) (a1 : Int32) (a2 : Int32)  : XS × Int32 := (σ16, (-1 : Int32))
def f_CO_put (σ : XS) (a1 : Int32) (a2 : Int32) : XS × Int32 := if (a1 &&& (31 : Int32)) = 0 then ((σ, (-1 : Int32))) else (f_CO_put_c1 (xs_regs σ (upd (x_regs σ) (Int32.toNatClampNeg (a1 &&& (31 : Int32))) a2)) a1 a2 )
theorem d_CO_put_0 : decode b_CO_put 0 = .ok (.iload_n 1, 1) := by decide +kernel
theorem d_CO_put_1 : decode b_CO_put 1 = .ok (.bipush 31, 2) := by decide +kernel
theorem d_CO_put_3 : decode b_CO_put 3 = .ok (.iand, 1) := by decide +kernel
theorem d_CO_put_4 : decode b_CO_put 4 = .ok (.ifCond .eq 13, 3) := by decide +kernel
theorem d_CO_put_7 : decode b_CO_put 7 = .ok (.aload_n 0, 1) := by decide +kernel
theorem d_CO_put_8 : decode b_CO_put 8 = .ok (.getfield 14, 3) := by decide +kernel
theorem d_CO_put_11 : decode b_CO_put 11 = .ok (.iload_n 1, 1) := by decide +kernel
theorem d_CO_put_12 : decode b_CO_put 12 = .ok (.bipush 31, 2) := by decide +kernel
theorem d_CO_put_14 : decode b_CO_put 14 = .ok (.iand, 1) := by decide +kernel
theorem d_CO_put_15 : decode b_CO_put 15 = .ok (.iload_n 2, 1) := by decide +kernel
theorem d_CO_put_16 : decode b_CO_put 16 = .ok (.iastore, 1) := by decide +kernel
theorem d_CO_put_17 : decode b_CO_put 17 = .ok (.iconst (-1), 1) := by decide +kernel
theorem d_CO_put_18 : decode b_CO_put 18 = .ok (.ireturn, 1) := by decide +kernel
set_option maxHeartbeats 4000000 in
set_option maxRecDepth 100000 in
theorem c_CO_put (l : Launch) (E : Ev) (ad : Nat → Nat) (σ : XS) (a1 : Int32) (a2 : Int32) : rC xCl l E (xW E ad) y_CO_put b_CO_put 3 (Option.some Jvm.ClassFile.FieldType.int) (rmo 0 0) [.ref (ad 5), .int a1, .int a2] σ (zI (f_CO_put σ a1 a2)) := by
  refine rC.of (by decide) (Nat.le_of_ble_eq_true rfl) ?_
  intro p e s m below meth c A ls hc w hl
  generalize e0 : zI (f_CO_put σ a1 a2) = Z
  have hc : Cx xCl E A p s m ([.ref (ad 5), .int a1, .int a2] : List Value).toArray meth c b_CO_put 3 (Option.some Jvm.ClassFile.FieldType.int) "PageMachine$Core" := hc
  have hx := hc.1
  have hb := hc.2.1
  have ho := hc.2.2.2.2.2.1
  have hT := hc.2.2.2.2.2.2.1
  have hl : lv_has ls 3 [(0, .ref (ad 5)), (1, .int a1), (2, .int a2)] := hl
  refine lv_iload_n hx hb d_CO_put_0 rfl (lv_at hl 1 rfl) ?_
  refine lv_bipush (v := 31) hx hb d_CO_put_1 (by decide) ?_
  refine lv_iand hx hb d_CO_put_3 ?_
  refine lv_if_eq (tgt := 17) hx hb d_CO_put_4 (by decide) (fun q4 => ?_) (fun q4 => ?_)
  · refine lv_iconst (v := -1) hx hb d_CO_put_17 (by decide) ?_
    exact rt_i hc w d_CO_put_18 (by rw [← e0, f_CO_put, if_pos q4] <;> rfl)
  · refine lv_aload_n hx hb d_CO_put_7 rfl (lv_at hl 0 rfl) ?_
    refine g_CO_registers hc w mw_123 d_CO_put_8 ?_
    refine lv_iload_n hx hb d_CO_put_11 rfl (lv_at hl 1 rfl) ?_
    refine lv_bipush (v := 31) hx hb d_CO_put_12 (by decide) ?_
    refine lv_iand hx hb d_CO_put_14 ?_
    refine lv_iload_n hx hb d_CO_put_15 rfl (lv_at hl 2 rfl) ?_
    refine s_CO_registers hc w (bd31 _) d_CO_put_16 (fun σ16 H locs hs16 w => ?_)
    have e_c1 : zI (f_CO_put_c1 σ16 a1 a2 ) = Z := by rw [← e0, f_CO_put, if_neg q4, hs16]
    refine lv_iconst (v := -1) hx hb d_CO_put_17 (by decide) ?_
    exact rt_i hc w d_CO_put_18 (by rw [← e_c1, f_CO_put_c1] <;> rfl)
-- CO_putProduct
def f_CO_putProduct_c2 (σ12 : XS) (a1 : Int64)  : XS × Int32 := (σ12, (-1 : Int32))
def f_CO_putProduct_c1 (σ6 : XS) (a1 : Int64)  : XS × Int32 := f_CO_putProduct_c2 (xs_lo σ6 (Int64.toInt32 a1)) a1 
def f_CO_putProduct (σ : XS) (a1 : Int64) : XS × Int32 := f_CO_putProduct_c1 (xs_hi σ (Int64.toInt32 (a1 >>> (Int32.toInt64 (32 : Int32) &&& 63)))) a1 
theorem d_CO_putProduct_0 : decode b_CO_putProduct 0 = .ok (.aload_n 0, 1) := by decide +kernel
theorem d_CO_putProduct_1 : decode b_CO_putProduct 1 = .ok (.lload_n 1, 1) := by decide +kernel
theorem d_CO_putProduct_2 : decode b_CO_putProduct 2 = .ok (.bipush 32, 2) := by decide +kernel
theorem d_CO_putProduct_4 : decode b_CO_putProduct 4 = .ok (.lshr, 1) := by decide +kernel
theorem d_CO_putProduct_5 : decode b_CO_putProduct 5 = .ok (.l2i, 1) := by decide +kernel
theorem d_CO_putProduct_6 : decode b_CO_putProduct 6 = .ok (.putfield 20, 3) := by decide +kernel
theorem d_CO_putProduct_9 : decode b_CO_putProduct 9 = .ok (.aload_n 0, 1) := by decide +kernel
theorem d_CO_putProduct_10 : decode b_CO_putProduct 10 = .ok (.lload_n 1, 1) := by decide +kernel
theorem d_CO_putProduct_11 : decode b_CO_putProduct 11 = .ok (.l2i, 1) := by decide +kernel
theorem d_CO_putProduct_12 : decode b_CO_putProduct 12 = .ok (.putfield 23, 3) := by decide +kernel
theorem d_CO_putProduct_15 : decode b_CO_putProduct 15 = .ok (.iconst (-1), 1) := by decide +kernel
theorem d_CO_putProduct_16 : decode b_CO_putProduct 16 = .ok (.ireturn, 1) := by decide +kernel
set_option maxHeartbeats 4000000 in
set_option maxRecDepth 100000 in
theorem c_CO_putProduct (l : Launch) (E : Ev) (ad : Nat → Nat) (σ : XS) (a1 : Int64) : rC xCl l E (xW E ad) y_CO_putProduct b_CO_putProduct 3 (Option.some Jvm.ClassFile.FieldType.int) (rmo 0 0) [.ref (ad 5), .long a1] σ (zI (f_CO_putProduct σ a1)) := by
  refine rC.of (by decide) (Nat.le_of_ble_eq_true rfl) ?_
  intro p e s m below meth c A ls hc w hl
  generalize e0 : zI (f_CO_putProduct σ a1) = Z
  have hc : Cx xCl E A p s m ([.ref (ad 5), .long a1] : List Value).toArray meth c b_CO_putProduct 3 (Option.some Jvm.ClassFile.FieldType.int) "PageMachine$Core" := hc
  have hx := hc.1
  have hb := hc.2.1
  have ho := hc.2.2.2.2.2.1
  have hT := hc.2.2.2.2.2.2.1
  have hl : lv_has ls 3 [(0, .ref (ad 5)), (1, .long a1)] := hl
  refine lv_aload_n hx hb d_CO_putProduct_0 rfl (lv_at hl 0 rfl) ?_
  refine lv_lload_n hx hb d_CO_putProduct_1 rfl (lv_at hl 1 rfl) ?_
  refine lv_bipush (v := 32) hx hb d_CO_putProduct_2 (by decide) ?_
  refine lv_lshr hx hb d_CO_putProduct_4 rfl ?_
  refine lv_l2i hx hb d_CO_putProduct_5 rfl ?_
  refine p_CO_hi hc w mw_105 d_CO_putProduct_6 (fun σ6 H locs hs6 w => ?_)
  have e_c1 : zI (f_CO_putProduct_c1 σ6 a1 ) = Z := by rw [← e0, f_CO_putProduct, hs6]
  refine lv_aload_n hx hb d_CO_putProduct_9 rfl (lv_at hl 0 rfl) ?_
  refine lv_lload_n hx hb d_CO_putProduct_10 rfl (lv_at hl 1 rfl) ?_
  refine lv_l2i hx hb d_CO_putProduct_11 rfl ?_
  refine p_CO_lo hc w mw_108 d_CO_putProduct_12 (fun σ12 H locs hs12 w => ?_)
  have e_c2 : zI (f_CO_putProduct_c2 σ12 a1 ) = Z := by rw [← e_c1, f_CO_putProduct_c1, hs12]
  refine lv_iconst (v := -1) hx hb d_CO_putProduct_15 (by decide) ?_
  exact rt_i hc w d_CO_putProduct_16 (by rw [← e_c2, f_CO_putProduct_c2] <;> rfl)
-- CO_restartAt
def f_CO_restartAt_c2 (σ7 : XS) (a1 : Int32)  : XS := σ7
def f_CO_restartAt_c1 (σ2 : XS) (a1 : Int32)  : XS := f_CO_restartAt_c2 (xs_inds σ2 false) a1 
def f_CO_restartAt (σ : XS) (a1 : Int32) : XS := f_CO_restartAt_c1 (xs_pc σ a1) a1 
theorem d_CO_restartAt_0 : decode b_CO_restartAt 0 = .ok (.aload_n 0, 1) := by decide +kernel
theorem d_CO_restartAt_1 : decode b_CO_restartAt 1 = .ok (.iload_n 1, 1) := by decide +kernel
theorem d_CO_restartAt_2 : decode b_CO_restartAt 2 = .ok (.putfield 8, 3) := by decide +kernel
theorem d_CO_restartAt_5 : decode b_CO_restartAt 5 = .ok (.aload_n 0, 1) := by decide +kernel
theorem d_CO_restartAt_6 : decode b_CO_restartAt 6 = .ok (.iconst 0, 1) := by decide +kernel
theorem d_CO_restartAt_7 : decode b_CO_restartAt 7 = .ok (.putfield 26, 3) := by decide +kernel
theorem d_CO_restartAt_10 : decode b_CO_restartAt 10 = .ok (.return_, 1) := by decide +kernel
set_option maxHeartbeats 4000000 in
set_option maxRecDepth 100000 in
theorem c_CO_restartAt (l : Launch) (E : Ev) (ad : Nat → Nat) (σ : XS) (a1 : Int32) : rC xCl l E (xW E ad) y_CO_restartAt b_CO_restartAt 2 (Option.none : Option Jvm.ClassFile.FieldType) (rmo 0 0) [.ref (ad 5), .int a1] σ (zV (f_CO_restartAt σ a1)) := by
  refine rC.of (by decide) (Nat.le_of_ble_eq_true rfl) ?_
  intro p e s m below meth c A ls hc w hl
  generalize e0 : zV (f_CO_restartAt σ a1) = Z
  have hc : Cx xCl E A p s m ([.ref (ad 5), .int a1] : List Value).toArray meth c b_CO_restartAt 2 (Option.none : Option Jvm.ClassFile.FieldType) "PageMachine$Core" := hc
  have hx := hc.1
  have hb := hc.2.1
  have ho := hc.2.2.2.2.2.1
  have hT := hc.2.2.2.2.2.2.1
  have hl : lv_has ls 2 [(0, .ref (ad 5)), (1, .int a1)] := hl
  refine lv_aload_n hx hb d_CO_restartAt_0 rfl (lv_at hl 0 rfl) ?_
  refine lv_iload_n hx hb d_CO_restartAt_1 rfl (lv_at hl 1 rfl) ?_
  refine p_CO_pc hc w mw_111 d_CO_restartAt_2 (fun σ2 H locs hs2 w => ?_)
  have e_c1 : zV (f_CO_restartAt_c1 σ2 a1 ) = Z := by rw [← e0, f_CO_restartAt, hs2]
  refine lv_aload_n hx hb d_CO_restartAt_5 rfl (lv_at hl 0 rfl) ?_
  refine lv_iconst (v := 0) hx hb d_CO_restartAt_6 (by decide) ?_
  refine p_CO_inDelaySlot (v := false) hc w mw_120 d_CO_restartAt_7 (fun σ7 H locs hs7 w => ?_)
  have e_c2 : zV (f_CO_restartAt_c2 σ7 a1 ) = Z := by rw [← e_c1, f_CO_restartAt_c1, hs7]
  exact rt_v hc w d_CO_restartAt_10 (by rw [← e_c2, f_CO_restartAt_c2] <;> rfl)
-- CO_begin
def f_CO_begin_c3 (σ31 : XS) (a1 : Int32)  : XS := σ31
def f_CO_begin_c2 (σ26 : XS) (a1 : Int32)  : XS := f_CO_begin_c3 (xs_nextds σ26 false) a1 
def f_CO_begin_26 (σ26 : XS) (a1 : Int32) (w26_1 : Int32) : XS := f_CO_begin_c2 (xs_nextPc σ26 w26_1) a1 
def f_CO_begin_c1 (σ2 : XS) (a1 : Int32)  : XS := if (zb (x_inds σ2)) = 0 then (f_CO_begin_26 σ2 a1 ((x_pc σ2) + (4 : Int32))) else (f_CO_begin_26 σ2 a1 (x_behind σ2))
def f_CO_begin (σ : XS) (a1 : Int32) : XS := f_CO_begin_c1 (xs_instr σ a1) a1 
theorem d_CO_begin_0 : decode b_CO_begin 0 = .ok (.aload_n 0, 1) := by decide +kernel
theorem d_CO_begin_1 : decode b_CO_begin 1 = .ok (.iload_n 1, 1) := by decide +kernel
theorem d_CO_begin_2 : decode b_CO_begin 2 = .ok (.putfield 30, 3) := by decide +kernel
theorem d_CO_begin_5 : decode b_CO_begin 5 = .ok (.aload_n 0, 1) := by decide +kernel
theorem d_CO_begin_6 : decode b_CO_begin 6 = .ok (.aload_n 0, 1) := by decide +kernel
theorem d_CO_begin_7 : decode b_CO_begin 7 = .ok (.getfield 26, 3) := by decide +kernel
theorem d_CO_begin_10 : decode b_CO_begin 10 = .ok (.ifCond .eq 10, 3) := by decide +kernel
theorem d_CO_begin_13 : decode b_CO_begin 13 = .ok (.aload_n 0, 1) := by decide +kernel
theorem d_CO_begin_14 : decode b_CO_begin 14 = .ok (.getfield 33, 3) := by decide +kernel
theorem d_CO_begin_17 : decode b_CO_begin 17 = .ok (.goto 9, 3) := by decide +kernel
theorem d_CO_begin_20 : decode b_CO_begin 20 = .ok (.aload_n 0, 1) := by decide +kernel
theorem d_CO_begin_21 : decode b_CO_begin 21 = .ok (.getfield 8, 3) := by decide +kernel
theorem d_CO_begin_24 : decode b_CO_begin 24 = .ok (.iconst 4, 1) := by decide +kernel
theorem d_CO_begin_25 : decode b_CO_begin 25 = .ok (.iadd, 1) := by decide +kernel
theorem d_CO_begin_26 : decode b_CO_begin 26 = .ok (.putfield 36, 3) := by decide +kernel
theorem d_CO_begin_29 : decode b_CO_begin 29 = .ok (.aload_n 0, 1) := by decide +kernel
theorem d_CO_begin_30 : decode b_CO_begin 30 = .ok (.iconst 0, 1) := by decide +kernel
theorem d_CO_begin_31 : decode b_CO_begin 31 = .ok (.putfield 39, 3) := by decide +kernel
theorem d_CO_begin_34 : decode b_CO_begin 34 = .ok (.return_, 1) := by decide +kernel
set_option maxHeartbeats 4000000 in
set_option maxRecDepth 100000 in
theorem c_CO_begin (l : Launch) (E : Ev) (ad : Nat → Nat) (σ : XS) (a1 : Int32) : rC xCl l E (xW E ad) y_CO_begin b_CO_begin 2 (Option.none : Option Jvm.ClassFile.FieldType) (rmo 0 0) [.ref (ad 5), .int a1] σ (zV (f_CO_begin σ a1)) := by
  refine rC.of (by decide) (Nat.le_of_ble_eq_true rfl) ?_
  intro p e s m below meth c A ls hc w hl
  generalize e0 : zV (f_CO_begin σ a1) = Z
  have hc : Cx xCl E A p s m ([.ref (ad 5), .int a1] : List Value).toArray meth c b_CO_begin 2 (Option.none : Option Jvm.ClassFile.FieldType) "PageMachine$Core" := hc
  have hx := hc.1
  have hb := hc.2.1
  have ho := hc.2.2.2.2.2.1
  have hT := hc.2.2.2.2.2.2.1
  have hl : lv_has ls 2 [(0, .ref (ad 5)), (1, .int a1)] := hl
  have J26 : ∀ (σ26 : XS) (w26_1 : Int32) (H : Heap) (locs : List Loc) (ls : Array Slot), Wd xCl E A s.heap H locs (xW E ad σ26) → lv_has ls 2 [(0, .ref (ad 5))] → zV (f_CO_begin_26 σ26 a1 w26_1) = Z → W p l e (rmo 0 0) s m ([.ref (ad 5), .int a1] : List Value).toArray below meth c H locs 0 0 (MQ below (rQ xCl (xW E ad) E A Z) ([.ref (ad 5), .int a1] : List Value).toArray s 0 0 A) (F0 m 26 ls [.int w26_1, .ref (ad 5)]) := by
    intro σ26 w26_1 H locs ls w hl e26
    refine p_CO_nextPc hc w mw_126 d_CO_begin_26 (fun σ26 H locs hs26 w => ?_)
    have e_c2 : zV (f_CO_begin_c2 σ26 a1 ) = Z := by rw [← e26, f_CO_begin_26, hs26]
    refine lv_aload_n hx hb d_CO_begin_29 rfl (lv_at hl 0 rfl) ?_
    refine lv_iconst (v := 0) hx hb d_CO_begin_30 (by decide) ?_
    refine p_CO_nextInDelaySlot (v := false) hc w mw_127 d_CO_begin_31 (fun σ31 H locs hs31 w => ?_)
    have e_c3 : zV (f_CO_begin_c3 σ31 a1 ) = Z := by rw [← e_c2, f_CO_begin_c2, hs31]
    exact rt_v hc w d_CO_begin_34 (by rw [← e_c3, f_CO_begin_c3] <;> rfl)
  refine lv_aload_n hx hb d_CO_begin_0 rfl (lv_at hl 0 rfl) ?_
  refine lv_iload_n hx hb d_CO_begin_1 rfl (lv_at hl 1 rfl) ?_
  refine p_CO_instruction hc w mw_125 d_CO_begin_2 (fun σ2 H locs hs2 w => ?_)
  have e_c1 : zV (f_CO_begin_c1 σ2 a1 ) = Z := by rw [← e0, f_CO_begin, hs2]
  refine lv_aload_n hx hb d_CO_begin_5 rfl (lv_at hl 0 rfl) ?_
  refine lv_aload_n hx hb d_CO_begin_6 rfl (lv_at hl 0 rfl) ?_
  refine g_CO_inDelaySlot hc w mw_120 d_CO_begin_7 ?_
  refine lv_if_eq (tgt := 20) hx hb d_CO_begin_10 (by decide) (fun q10 => ?_) (fun q10 => ?_)
  · refine lv_aload_n hx hb d_CO_begin_20 rfl (lv_at hl 0 rfl) ?_
    refine g_CO_pc hc w mw_111 d_CO_begin_21 ?_
    refine lv_iconst (v := 4) hx hb d_CO_begin_24 (by decide) ?_
    refine lv_iadd hx hb d_CO_begin_25 ?_
    exact J26 σ2 ((x_pc σ2) + (4 : Int32)) _ _ _ w (lv_sub hl [0] rfl) (by rw [← e_c1, f_CO_begin_c1, if_pos q10])
  · refine lv_aload_n hx hb d_CO_begin_13 rfl (lv_at hl 0 rfl) ?_
    refine g_CO_behindSlot hc w mw_124 d_CO_begin_14 ?_
    refine lv_goto (tgt := 26) hx hb d_CO_begin_17 (by decide) ?_
    exact J26 σ2 (x_behind σ2) _ _ _ w (lv_sub hl [0] rfl) (by rw [← e_c1, f_CO_begin_c1, if_neg q10])
-- CO_finish
def f_CO_finish_c2 (σ13 : XS)   : XS := σ13
def f_CO_finish_c1 (σ5 : XS)   : XS := f_CO_finish_c2 (xs_inds σ5 (x_nextds σ5))  
def f_CO_finish (σ : XS) : XS := f_CO_finish_c1 (xs_pc σ (x_nextPc σ))  
theorem d_CO_finish_0 : decode b_CO_finish 0 = .ok (.aload_n 0, 1) := by decide +kernel
theorem d_CO_finish_1 : decode b_CO_finish 1 = .ok (.aload_n 0, 1) := by decide +kernel
theorem d_CO_finish_2 : decode b_CO_finish 2 = .ok (.getfield 36, 3) := by decide +kernel
theorem d_CO_finish_5 : decode b_CO_finish 5 = .ok (.putfield 8, 3) := by decide +kernel
theorem d_CO_finish_8 : decode b_CO_finish 8 = .ok (.aload_n 0, 1) := by decide +kernel
theorem d_CO_finish_9 : decode b_CO_finish 9 = .ok (.aload_n 0, 1) := by decide +kernel
theorem d_CO_finish_10 : decode b_CO_finish 10 = .ok (.getfield 39, 3) := by decide +kernel
theorem d_CO_finish_13 : decode b_CO_finish 13 = .ok (.putfield 26, 3) := by decide +kernel
theorem d_CO_finish_16 : decode b_CO_finish 16 = .ok (.return_, 1) := by decide +kernel
set_option maxHeartbeats 4000000 in
set_option maxRecDepth 100000 in
theorem c_CO_finish (l : Launch) (E : Ev) (ad : Nat → Nat) (σ : XS) : rC xCl l E (xW E ad) y_CO_finish b_CO_finish 1 (Option.none : Option Jvm.ClassFile.FieldType) (rmo 0 0) [.ref (ad 5)] σ (zV (f_CO_finish σ)) := by
  refine rC.of (by decide) (Nat.le_of_ble_eq_true rfl) ?_
  intro p e s m below meth c A ls hc w hl
  generalize e0 : zV (f_CO_finish σ) = Z
  have hc : Cx xCl E A p s m ([.ref (ad 5)] : List Value).toArray meth c b_CO_finish 1 (Option.none : Option Jvm.ClassFile.FieldType) "PageMachine$Core" := hc
  have hx := hc.1
  have hb := hc.2.1
  have ho := hc.2.2.2.2.2.1
  have hT := hc.2.2.2.2.2.2.1
  have hl : lv_has ls 1 [(0, .ref (ad 5))] := hl
  refine lv_aload_n hx hb d_CO_finish_0 rfl (lv_at hl 0 rfl) ?_
  refine lv_aload_n hx hb d_CO_finish_1 rfl (lv_at hl 0 rfl) ?_
  refine g_CO_nextPc hc w mw_126 d_CO_finish_2 ?_
  refine p_CO_pc hc w mw_111 d_CO_finish_5 (fun σ5 H locs hs5 w => ?_)
  have e_c1 : zV (f_CO_finish_c1 σ5  ) = Z := by rw [← e0, f_CO_finish, hs5]
  refine lv_aload_n hx hb d_CO_finish_8 rfl (lv_at hl 0 rfl) ?_
  refine lv_aload_n hx hb d_CO_finish_9 rfl (lv_at hl 0 rfl) ?_
  refine g_CO_nextInDelaySlot hc w mw_127 d_CO_finish_10 ?_
  refine p_CO_inDelaySlot (v := x_nextds σ5) hc w mw_120 d_CO_finish_13 (fun σ13 H locs hs13 w => ?_)
  have e_c2 : zV (f_CO_finish_c2 σ13  ) = Z := by rw [← e_c1, f_CO_finish_c1, hs13]
  exact rt_v hc w d_CO_finish_16 (by rw [← e_c2, f_CO_finish_c2] <;> rfl)
-- CO_goBehindSlotTo
def f_CO_goBehindSlotTo_c2 (σ7 : XS) (a1 : Int32)  : XS := σ7
def f_CO_goBehindSlotTo_c1 (σ2 : XS) (a1 : Int32)  : XS := f_CO_goBehindSlotTo_c2 (xs_nextds σ2 true) a1 
def f_CO_goBehindSlotTo (σ : XS) (a1 : Int32) : XS := f_CO_goBehindSlotTo_c1 (xs_behind σ a1) a1 
theorem d_CO_goBehindSlotTo_0 : decode b_CO_goBehindSlotTo 0 = .ok (.aload_n 0, 1) := by decide +kernel
theorem d_CO_goBehindSlotTo_1 : decode b_CO_goBehindSlotTo 1 = .ok (.iload_n 1, 1) := by decide +kernel
theorem d_CO_goBehindSlotTo_2 : decode b_CO_goBehindSlotTo 2 = .ok (.putfield 33, 3) := by decide +kernel
theorem d_CO_goBehindSlotTo_5 : decode b_CO_goBehindSlotTo 5 = .ok (.aload_n 0, 1) := by decide +kernel
theorem d_CO_goBehindSlotTo_6 : decode b_CO_goBehindSlotTo 6 = .ok (.iconst 1, 1) := by decide +kernel
theorem d_CO_goBehindSlotTo_7 : decode b_CO_goBehindSlotTo 7 = .ok (.putfield 39, 3) := by decide +kernel
theorem d_CO_goBehindSlotTo_10 : decode b_CO_goBehindSlotTo 10 = .ok (.return_, 1) := by decide +kernel
set_option maxHeartbeats 4000000 in
set_option maxRecDepth 100000 in
theorem c_CO_goBehindSlotTo (l : Launch) (E : Ev) (ad : Nat → Nat) (σ : XS) (a1 : Int32) : rC xCl l E (xW E ad) y_CO_goBehindSlotTo b_CO_goBehindSlotTo 2 (Option.none : Option Jvm.ClassFile.FieldType) (rmo 0 0) [.ref (ad 5), .int a1] σ (zV (f_CO_goBehindSlotTo σ a1)) := by
  refine rC.of (by decide) (Nat.le_of_ble_eq_true rfl) ?_
  intro p e s m below meth c A ls hc w hl
  generalize e0 : zV (f_CO_goBehindSlotTo σ a1) = Z
  have hc : Cx xCl E A p s m ([.ref (ad 5), .int a1] : List Value).toArray meth c b_CO_goBehindSlotTo 2 (Option.none : Option Jvm.ClassFile.FieldType) "PageMachine$Core" := hc
  have hx := hc.1
  have hb := hc.2.1
  have ho := hc.2.2.2.2.2.1
  have hT := hc.2.2.2.2.2.2.1
  have hl : lv_has ls 2 [(0, .ref (ad 5)), (1, .int a1)] := hl
  refine lv_aload_n hx hb d_CO_goBehindSlotTo_0 rfl (lv_at hl 0 rfl) ?_
  refine lv_iload_n hx hb d_CO_goBehindSlotTo_1 rfl (lv_at hl 1 rfl) ?_
  refine p_CO_behindSlot hc w mw_124 d_CO_goBehindSlotTo_2 (fun σ2 H locs hs2 w => ?_)
  have e_c1 : zV (f_CO_goBehindSlotTo_c1 σ2 a1 ) = Z := by rw [← e0, f_CO_goBehindSlotTo, hs2]
  refine lv_aload_n hx hb d_CO_goBehindSlotTo_5 rfl (lv_at hl 0 rfl) ?_
  refine lv_iconst (v := 1) hx hb d_CO_goBehindSlotTo_6 (by decide) ?_
  refine p_CO_nextInDelaySlot (v := true) hc w mw_127 d_CO_goBehindSlotTo_7 (fun σ7 H locs hs7 w => ?_)
  have e_c2 : zV (f_CO_goBehindSlotTo_c2 σ7 a1 ) = Z := by rw [← e_c1, f_CO_goBehindSlotTo_c1, hs7]
  exact rt_v hc w d_CO_goBehindSlotTo_10 (by rw [← e_c2, f_CO_goBehindSlotTo_c2] <;> rfl)
-- CO_goAtOnceTo
def f_CO_goAtOnceTo_c1 (σ2 : XS) (a1 : Int32)  : XS := σ2
def f_CO_goAtOnceTo (σ : XS) (a1 : Int32) : XS := f_CO_goAtOnceTo_c1 (xs_nextPc σ a1) a1 
theorem d_CO_goAtOnceTo_0 : decode b_CO_goAtOnceTo 0 = .ok (.aload_n 0, 1) := by decide +kernel
theorem d_CO_goAtOnceTo_1 : decode b_CO_goAtOnceTo 1 = .ok (.iload_n 1, 1) := by decide +kernel
theorem d_CO_goAtOnceTo_2 : decode b_CO_goAtOnceTo 2 = .ok (.putfield 36, 3) := by decide +kernel
theorem d_CO_goAtOnceTo_5 : decode b_CO_goAtOnceTo 5 = .ok (.return_, 1) := by decide +kernel
set_option maxHeartbeats 4000000 in
set_option maxRecDepth 100000 in
theorem c_CO_goAtOnceTo (l : Launch) (E : Ev) (ad : Nat → Nat) (σ : XS) (a1 : Int32) : rC xCl l E (xW E ad) y_CO_goAtOnceTo b_CO_goAtOnceTo 2 (Option.none : Option Jvm.ClassFile.FieldType) (rmo 0 0) [.ref (ad 5), .int a1] σ (zV (f_CO_goAtOnceTo σ a1)) := by
  refine rC.of (by decide) (Nat.le_of_ble_eq_true rfl) ?_
  intro p e s m below meth c A ls hc w hl
  generalize e0 : zV (f_CO_goAtOnceTo σ a1) = Z
  have hc : Cx xCl E A p s m ([.ref (ad 5), .int a1] : List Value).toArray meth c b_CO_goAtOnceTo 2 (Option.none : Option Jvm.ClassFile.FieldType) "PageMachine$Core" := hc
  have hx := hc.1
  have hb := hc.2.1
  have ho := hc.2.2.2.2.2.1
  have hT := hc.2.2.2.2.2.2.1
  have hl : lv_has ls 2 [(0, .ref (ad 5)), (1, .int a1)] := hl
  refine lv_aload_n hx hb d_CO_goAtOnceTo_0 rfl (lv_at hl 0 rfl) ?_
  refine lv_iload_n hx hb d_CO_goAtOnceTo_1 rfl (lv_at hl 1 rfl) ?_
  refine p_CO_nextPc hc w mw_126 d_CO_goAtOnceTo_2 (fun σ2 H locs hs2 w => ?_)
  have e_c1 : zV (f_CO_goAtOnceTo_c1 σ2 a1 ) = Z := by rw [← e0, f_CO_goAtOnceTo, hs2]
  exact rt_v hc w d_CO_goAtOnceTo_5 (by rw [← e_c1, f_CO_goAtOnceTo_c1] <;> rfl)
-- CO_op
def f_CO_op (σ : XS) : Int32 := (Int32.toUInt32 (x_instr σ) >>> (Int32.toUInt32 (26 : Int32) &&& Int32.toUInt32 31)).toInt32
theorem d_CO_op_0 : decode b_CO_op 0 = .ok (.aload_n 0, 1) := by decide +kernel
theorem d_CO_op_1 : decode b_CO_op 1 = .ok (.getfield 30, 3) := by decide +kernel
theorem d_CO_op_4 : decode b_CO_op 4 = .ok (.bipush 26, 2) := by decide +kernel
theorem d_CO_op_6 : decode b_CO_op 6 = .ok (.iushr, 1) := by decide +kernel
theorem d_CO_op_7 : decode b_CO_op 7 = .ok (.ireturn, 1) := by decide +kernel
set_option maxHeartbeats 4000000 in
set_option maxRecDepth 100000 in
theorem c_CO_op (l : Launch) (E : Ev) (ad : Nat → Nat) (σ : XS) : rC xCl l E (xW E ad) y_CO_op b_CO_op 1 (Option.some Jvm.ClassFile.FieldType.int) (rmo 0 0) [.ref (ad 5)] σ ((σ, some (Value.int (f_CO_op σ)))) := by
  refine rC.of (by decide) (Nat.le_of_ble_eq_true rfl) ?_
  intro p e s m below meth c A ls hc w hl
  generalize e0 : (σ, some (Value.int (f_CO_op σ))) = Z
  have hc : Cx xCl E A p s m ([.ref (ad 5)] : List Value).toArray meth c b_CO_op 1 (Option.some Jvm.ClassFile.FieldType.int) "PageMachine$Core" := hc
  have hx := hc.1
  have hb := hc.2.1
  have ho := hc.2.2.2.2.2.1
  have hT := hc.2.2.2.2.2.2.1
  have hl : lv_has ls 1 [(0, .ref (ad 5))] := hl
  refine lv_aload_n hx hb d_CO_op_0 rfl (lv_at hl 0 rfl) ?_
  refine g_CO_instruction hc w mw_125 d_CO_op_1 ?_
  refine lv_bipush (v := 26) hx hb d_CO_op_4 (by decide) ?_
  refine lv_iushr hx hb d_CO_op_6 rfl ?_
  exact rt_i hc w d_CO_op_7 (by rw [← e0, f_CO_op] <;> rfl)
-- CO_rs
def f_CO_rs (σ : XS) : Int32 := ((Int32.toUInt32 (x_instr σ) >>> (Int32.toUInt32 (21 : Int32) &&& Int32.toUInt32 31)).toInt32) &&& (31 : Int32)
theorem d_CO_rs_0 : decode b_CO_rs 0 = .ok (.aload_n 0, 1) := by decide +kernel
theorem d_CO_rs_1 : decode b_CO_rs 1 = .ok (.getfield 30, 3) := by decide +kernel
theorem d_CO_rs_4 : decode b_CO_rs 4 = .ok (.bipush 21, 2) := by decide +kernel
theorem d_CO_rs_6 : decode b_CO_rs 6 = .ok (.iushr, 1) := by decide +kernel
theorem d_CO_rs_7 : decode b_CO_rs 7 = .ok (.bipush 31, 2) := by decide +kernel
theorem d_CO_rs_9 : decode b_CO_rs 9 = .ok (.iand, 1) := by decide +kernel
theorem d_CO_rs_10 : decode b_CO_rs 10 = .ok (.ireturn, 1) := by decide +kernel
set_option maxHeartbeats 4000000 in
set_option maxRecDepth 100000 in
theorem c_CO_rs (l : Launch) (E : Ev) (ad : Nat → Nat) (σ : XS) : rC xCl l E (xW E ad) y_CO_rs b_CO_rs 1 (Option.some Jvm.ClassFile.FieldType.int) (rmo 0 0) [.ref (ad 5)] σ ((σ, some (Value.int (f_CO_rs σ)))) := by
  refine rC.of (by decide) (Nat.le_of_ble_eq_true rfl) ?_
  intro p e s m below meth c A ls hc w hl
  generalize e0 : (σ, some (Value.int (f_CO_rs σ))) = Z
  have hc : Cx xCl E A p s m ([.ref (ad 5)] : List Value).toArray meth c b_CO_rs 1 (Option.some Jvm.ClassFile.FieldType.int) "PageMachine$Core" := hc
  have hx := hc.1
  have hb := hc.2.1
  have ho := hc.2.2.2.2.2.1
  have hT := hc.2.2.2.2.2.2.1
  have hl : lv_has ls 1 [(0, .ref (ad 5))] := hl
  refine lv_aload_n hx hb d_CO_rs_0 rfl (lv_at hl 0 rfl) ?_
  refine g_CO_instruction hc w mw_125 d_CO_rs_1 ?_
  refine lv_bipush (v := 21) hx hb d_CO_rs_4 (by decide) ?_
  refine lv_iushr hx hb d_CO_rs_6 rfl ?_
  refine lv_bipush (v := 31) hx hb d_CO_rs_7 (by decide) ?_
  refine lv_iand hx hb d_CO_rs_9 ?_
  exact rt_i hc w d_CO_rs_10 (by rw [← e0, f_CO_rs] <;> rfl)
-- CO_rt
def f_CO_rt (σ : XS) : Int32 := ((Int32.toUInt32 (x_instr σ) >>> (Int32.toUInt32 (16 : Int32) &&& Int32.toUInt32 31)).toInt32) &&& (31 : Int32)
theorem d_CO_rt_0 : decode b_CO_rt 0 = .ok (.aload_n 0, 1) := by decide +kernel
theorem d_CO_rt_1 : decode b_CO_rt 1 = .ok (.getfield 30, 3) := by decide +kernel
theorem d_CO_rt_4 : decode b_CO_rt 4 = .ok (.bipush 16, 2) := by decide +kernel
theorem d_CO_rt_6 : decode b_CO_rt 6 = .ok (.iushr, 1) := by decide +kernel
theorem d_CO_rt_7 : decode b_CO_rt 7 = .ok (.bipush 31, 2) := by decide +kernel
theorem d_CO_rt_9 : decode b_CO_rt 9 = .ok (.iand, 1) := by decide +kernel
theorem d_CO_rt_10 : decode b_CO_rt 10 = .ok (.ireturn, 1) := by decide +kernel
set_option maxHeartbeats 4000000 in
set_option maxRecDepth 100000 in
theorem c_CO_rt (l : Launch) (E : Ev) (ad : Nat → Nat) (σ : XS) : rC xCl l E (xW E ad) y_CO_rt b_CO_rt 1 (Option.some Jvm.ClassFile.FieldType.int) (rmo 0 0) [.ref (ad 5)] σ ((σ, some (Value.int (f_CO_rt σ)))) := by
  refine rC.of (by decide) (Nat.le_of_ble_eq_true rfl) ?_
  intro p e s m below meth c A ls hc w hl
  generalize e0 : (σ, some (Value.int (f_CO_rt σ))) = Z
  have hc : Cx xCl E A p s m ([.ref (ad 5)] : List Value).toArray meth c b_CO_rt 1 (Option.some Jvm.ClassFile.FieldType.int) "PageMachine$Core" := hc
  have hx := hc.1
  have hb := hc.2.1
  have ho := hc.2.2.2.2.2.1
  have hT := hc.2.2.2.2.2.2.1
  have hl : lv_has ls 1 [(0, .ref (ad 5))] := hl
  refine lv_aload_n hx hb d_CO_rt_0 rfl (lv_at hl 0 rfl) ?_
  refine g_CO_instruction hc w mw_125 d_CO_rt_1 ?_
  refine lv_bipush (v := 16) hx hb d_CO_rt_4 (by decide) ?_
  refine lv_iushr hx hb d_CO_rt_6 rfl ?_
  refine lv_bipush (v := 31) hx hb d_CO_rt_7 (by decide) ?_
  refine lv_iand hx hb d_CO_rt_9 ?_
  exact rt_i hc w d_CO_rt_10 (by rw [← e0, f_CO_rt] <;> rfl)
-- CO_rd
def f_CO_rd (σ : XS) : Int32 := ((Int32.toUInt32 (x_instr σ) >>> (Int32.toUInt32 (11 : Int32) &&& Int32.toUInt32 31)).toInt32) &&& (31 : Int32)
theorem d_CO_rd_0 : decode b_CO_rd 0 = .ok (.aload_n 0, 1) := by decide +kernel
theorem d_CO_rd_1 : decode b_CO_rd 1 = .ok (.getfield 30, 3) := by decide +kernel
theorem d_CO_rd_4 : decode b_CO_rd 4 = .ok (.bipush 11, 2) := by decide +kernel
theorem d_CO_rd_6 : decode b_CO_rd 6 = .ok (.iushr, 1) := by decide +kernel
theorem d_CO_rd_7 : decode b_CO_rd 7 = .ok (.bipush 31, 2) := by decide +kernel
theorem d_CO_rd_9 : decode b_CO_rd 9 = .ok (.iand, 1) := by decide +kernel
theorem d_CO_rd_10 : decode b_CO_rd 10 = .ok (.ireturn, 1) := by decide +kernel
set_option maxHeartbeats 4000000 in
set_option maxRecDepth 100000 in
theorem c_CO_rd (l : Launch) (E : Ev) (ad : Nat → Nat) (σ : XS) : rC xCl l E (xW E ad) y_CO_rd b_CO_rd 1 (Option.some Jvm.ClassFile.FieldType.int) (rmo 0 0) [.ref (ad 5)] σ ((σ, some (Value.int (f_CO_rd σ)))) := by
  refine rC.of (by decide) (Nat.le_of_ble_eq_true rfl) ?_
  intro p e s m below meth c A ls hc w hl
  generalize e0 : (σ, some (Value.int (f_CO_rd σ))) = Z
  have hc : Cx xCl E A p s m ([.ref (ad 5)] : List Value).toArray meth c b_CO_rd 1 (Option.some Jvm.ClassFile.FieldType.int) "PageMachine$Core" := hc
  have hx := hc.1
  have hb := hc.2.1
  have ho := hc.2.2.2.2.2.1
  have hT := hc.2.2.2.2.2.2.1
  have hl : lv_has ls 1 [(0, .ref (ad 5))] := hl
  refine lv_aload_n hx hb d_CO_rd_0 rfl (lv_at hl 0 rfl) ?_
  refine g_CO_instruction hc w mw_125 d_CO_rd_1 ?_
  refine lv_bipush (v := 11) hx hb d_CO_rd_4 (by decide) ?_
  refine lv_iushr hx hb d_CO_rd_6 rfl ?_
  refine lv_bipush (v := 31) hx hb d_CO_rd_7 (by decide) ?_
  refine lv_iand hx hb d_CO_rd_9 ?_
  exact rt_i hc w d_CO_rd_10 (by rw [← e0, f_CO_rd] <;> rfl)
-- CO_sh
def f_CO_sh (σ : XS) : Int32 := ((Int32.toUInt32 (x_instr σ) >>> (Int32.toUInt32 (6 : Int32) &&& Int32.toUInt32 31)).toInt32) &&& (31 : Int32)
theorem d_CO_sh_0 : decode b_CO_sh 0 = .ok (.aload_n 0, 1) := by decide +kernel
theorem d_CO_sh_1 : decode b_CO_sh 1 = .ok (.getfield 30, 3) := by decide +kernel
theorem d_CO_sh_4 : decode b_CO_sh 4 = .ok (.bipush 6, 2) := by decide +kernel
theorem d_CO_sh_6 : decode b_CO_sh 6 = .ok (.iushr, 1) := by decide +kernel
theorem d_CO_sh_7 : decode b_CO_sh 7 = .ok (.bipush 31, 2) := by decide +kernel
theorem d_CO_sh_9 : decode b_CO_sh 9 = .ok (.iand, 1) := by decide +kernel
theorem d_CO_sh_10 : decode b_CO_sh 10 = .ok (.ireturn, 1) := by decide +kernel
set_option maxHeartbeats 4000000 in
set_option maxRecDepth 100000 in
theorem c_CO_sh (l : Launch) (E : Ev) (ad : Nat → Nat) (σ : XS) : rC xCl l E (xW E ad) y_CO_sh b_CO_sh 1 (Option.some Jvm.ClassFile.FieldType.int) (rmo 0 0) [.ref (ad 5)] σ ((σ, some (Value.int (f_CO_sh σ)))) := by
  refine rC.of (by decide) (Nat.le_of_ble_eq_true rfl) ?_
  intro p e s m below meth c A ls hc w hl
  generalize e0 : (σ, some (Value.int (f_CO_sh σ))) = Z
  have hc : Cx xCl E A p s m ([.ref (ad 5)] : List Value).toArray meth c b_CO_sh 1 (Option.some Jvm.ClassFile.FieldType.int) "PageMachine$Core" := hc
  have hx := hc.1
  have hb := hc.2.1
  have ho := hc.2.2.2.2.2.1
  have hT := hc.2.2.2.2.2.2.1
  have hl : lv_has ls 1 [(0, .ref (ad 5))] := hl
  refine lv_aload_n hx hb d_CO_sh_0 rfl (lv_at hl 0 rfl) ?_
  refine g_CO_instruction hc w mw_125 d_CO_sh_1 ?_
  refine lv_bipush (v := 6) hx hb d_CO_sh_4 (by decide) ?_
  refine lv_iushr hx hb d_CO_sh_6 rfl ?_
  refine lv_bipush (v := 31) hx hb d_CO_sh_7 (by decide) ?_
  refine lv_iand hx hb d_CO_sh_9 ?_
  exact rt_i hc w d_CO_sh_10 (by rw [← e0, f_CO_sh] <;> rfl)
-- CO_fn
def f_CO_fn (σ : XS) : Int32 := (x_instr σ) &&& (63 : Int32)
theorem d_CO_fn_0 : decode b_CO_fn 0 = .ok (.aload_n 0, 1) := by decide +kernel
theorem d_CO_fn_1 : decode b_CO_fn 1 = .ok (.getfield 30, 3) := by decide +kernel
theorem d_CO_fn_4 : decode b_CO_fn 4 = .ok (.bipush 63, 2) := by decide +kernel
theorem d_CO_fn_6 : decode b_CO_fn 6 = .ok (.iand, 1) := by decide +kernel
theorem d_CO_fn_7 : decode b_CO_fn 7 = .ok (.ireturn, 1) := by decide +kernel
set_option maxHeartbeats 4000000 in
set_option maxRecDepth 100000 in
theorem c_CO_fn (l : Launch) (E : Ev) (ad : Nat → Nat) (σ : XS) : rC xCl l E (xW E ad) y_CO_fn b_CO_fn 1 (Option.some Jvm.ClassFile.FieldType.int) (rmo 0 0) [.ref (ad 5)] σ ((σ, some (Value.int (f_CO_fn σ)))) := by
  refine rC.of (by decide) (Nat.le_of_ble_eq_true rfl) ?_
  intro p e s m below meth c A ls hc w hl
  generalize e0 : (σ, some (Value.int (f_CO_fn σ))) = Z
  have hc : Cx xCl E A p s m ([.ref (ad 5)] : List Value).toArray meth c b_CO_fn 1 (Option.some Jvm.ClassFile.FieldType.int) "PageMachine$Core" := hc
  have hx := hc.1
  have hb := hc.2.1
  have ho := hc.2.2.2.2.2.1
  have hT := hc.2.2.2.2.2.2.1
  have hl : lv_has ls 1 [(0, .ref (ad 5))] := hl
  refine lv_aload_n hx hb d_CO_fn_0 rfl (lv_at hl 0 rfl) ?_
  refine g_CO_instruction hc w mw_125 d_CO_fn_1 ?_
  refine lv_bipush (v := 63) hx hb d_CO_fn_4 (by decide) ?_
  refine lv_iand hx hb d_CO_fn_6 ?_
  exact rt_i hc w d_CO_fn_7 (by rw [← e0, f_CO_fn] <;> rfl)
-- CO_signedImmediate
def f_CO_signedImmediate (σ : XS) : Int32 := (Int32.toInt16 (x_instr σ)).toInt32
theorem d_CO_signedImmediate_0 : decode b_CO_signedImmediate 0 = .ok (.aload_n 0, 1) := by decide +kernel
theorem d_CO_signedImmediate_1 : decode b_CO_signedImmediate 1 = .ok (.getfield 30, 3) := by decide +kernel
theorem d_CO_signedImmediate_4 : decode b_CO_signedImmediate 4 = .ok (.i2s, 1) := by decide +kernel
theorem d_CO_signedImmediate_5 : decode b_CO_signedImmediate 5 = .ok (.ireturn, 1) := by decide +kernel
set_option maxHeartbeats 4000000 in
set_option maxRecDepth 100000 in
theorem c_CO_signedImmediate (l : Launch) (E : Ev) (ad : Nat → Nat) (σ : XS) : rC xCl l E (xW E ad) y_CO_signedImmediate b_CO_signedImmediate 1 (Option.some Jvm.ClassFile.FieldType.int) (rmo 0 0) [.ref (ad 5)] σ ((σ, some (Value.int (f_CO_signedImmediate σ)))) := by
  refine rC.of (by decide) (Nat.le_of_ble_eq_true rfl) ?_
  intro p e s m below meth c A ls hc w hl
  generalize e0 : (σ, some (Value.int (f_CO_signedImmediate σ))) = Z
  have hc : Cx xCl E A p s m ([.ref (ad 5)] : List Value).toArray meth c b_CO_signedImmediate 1 (Option.some Jvm.ClassFile.FieldType.int) "PageMachine$Core" := hc
  have hx := hc.1
  have hb := hc.2.1
  have ho := hc.2.2.2.2.2.1
  have hT := hc.2.2.2.2.2.2.1
  have hl : lv_has ls 1 [(0, .ref (ad 5))] := hl
  refine lv_aload_n hx hb d_CO_signedImmediate_0 rfl (lv_at hl 0 rfl) ?_
  refine g_CO_instruction hc w mw_125 d_CO_signedImmediate_1 ?_
  refine lv_i2s hx hb d_CO_signedImmediate_4 rfl ?_
  exact rt_i hc w d_CO_signedImmediate_5 (by rw [← e0, f_CO_signedImmediate] <;> rfl)
-- CO_plainImmediate
def f_CO_plainImmediate (σ : XS) : Int32 := (x_instr σ) &&& (65535 : Int32)
theorem d_CO_plainImmediate_0 : decode b_CO_plainImmediate 0 = .ok (.aload_n 0, 1) := by decide +kernel
theorem d_CO_plainImmediate_1 : decode b_CO_plainImmediate 1 = .ok (.getfield 30, 3) := by decide +kernel
theorem d_CO_plainImmediate_4 : decode b_CO_plainImmediate 4 = .ok (.ldc 42, 2) := by decide +kernel
theorem d_CO_plainImmediate_6 : decode b_CO_plainImmediate 6 = .ok (.iand, 1) := by decide +kernel
theorem d_CO_plainImmediate_7 : decode b_CO_plainImmediate 7 = .ok (.ireturn, 1) := by decide +kernel
set_option maxHeartbeats 4000000 in
set_option maxRecDepth 100000 in
theorem c_CO_plainImmediate (l : Launch) (E : Ev) (ad : Nat → Nat) (σ : XS) : rC xCl l E (xW E ad) y_CO_plainImmediate b_CO_plainImmediate 1 (Option.some Jvm.ClassFile.FieldType.int) (rmo 0 0) [.ref (ad 5)] σ ((σ, some (Value.int (f_CO_plainImmediate σ)))) := by
  refine rC.of (by decide) (Nat.le_of_ble_eq_true rfl) ?_
  intro p e s m below meth c A ls hc w hl
  generalize e0 : (σ, some (Value.int (f_CO_plainImmediate σ))) = Z
  have hc : Cx xCl E A p s m ([.ref (ad 5)] : List Value).toArray meth c b_CO_plainImmediate 1 (Option.some Jvm.ClassFile.FieldType.int) "PageMachine$Core" := hc
  have hx := hc.1
  have hb := hc.2.1
  have ho := hc.2.2.2.2.2.1
  have hT := hc.2.2.2.2.2.2.1
  have hl : lv_has ls 1 [(0, .ref (ad 5))] := hl
  refine lv_aload_n hx hb d_CO_plainImmediate_0 rfl (lv_at hl 0 rfl) ?_
  refine g_CO_instruction hc w mw_125 d_CO_plainImmediate_1 ?_
  refine lv_ldc (v := 65535) hx hb ho (hT _ mw_698) d_CO_plainImmediate_4 ?_
  refine lv_iand hx hb d_CO_plainImmediate_6 ?_
  exact rt_i hc w d_CO_plainImmediate_7 (by rw [← e0, f_CO_plainImmediate] <;> rfl)
-- CO_jumpField
def f_CO_jumpField (σ : XS) : Int32 := (x_instr σ) &&& (67108863 : Int32)
theorem d_CO_jumpField_0 : decode b_CO_jumpField 0 = .ok (.aload_n 0, 1) := by decide +kernel
theorem d_CO_jumpField_1 : decode b_CO_jumpField 1 = .ok (.getfield 30, 3) := by decide +kernel
theorem d_CO_jumpField_4 : decode b_CO_jumpField 4 = .ok (.ldc 43, 2) := by decide +kernel
theorem d_CO_jumpField_6 : decode b_CO_jumpField 6 = .ok (.iand, 1) := by decide +kernel
theorem d_CO_jumpField_7 : decode b_CO_jumpField 7 = .ok (.ireturn, 1) := by decide +kernel
set_option maxHeartbeats 4000000 in
set_option maxRecDepth 100000 in
theorem c_CO_jumpField (l : Launch) (E : Ev) (ad : Nat → Nat) (σ : XS) : rC xCl l E (xW E ad) y_CO_jumpField b_CO_jumpField 1 (Option.some Jvm.ClassFile.FieldType.int) (rmo 0 0) [.ref (ad 5)] σ ((σ, some (Value.int (f_CO_jumpField σ)))) := by
  refine rC.of (by decide) (Nat.le_of_ble_eq_true rfl) ?_
  intro p e s m below meth c A ls hc w hl
  generalize e0 : (σ, some (Value.int (f_CO_jumpField σ))) = Z
  have hc : Cx xCl E A p s m ([.ref (ad 5)] : List Value).toArray meth c b_CO_jumpField 1 (Option.some Jvm.ClassFile.FieldType.int) "PageMachine$Core" := hc
  have hx := hc.1
  have hb := hc.2.1
  have ho := hc.2.2.2.2.2.1
  have hT := hc.2.2.2.2.2.2.1
  have hl : lv_has ls 1 [(0, .ref (ad 5))] := hl
  refine lv_aload_n hx hb d_CO_jumpField_0 rfl (lv_at hl 0 rfl) ?_
  refine g_CO_instruction hc w mw_125 d_CO_jumpField_1 ?_
  refine lv_ldc (v := 67108863) hx hb ho (hT _ mw_680) d_CO_jumpField_4 ?_
  refine lv_iand hx hb d_CO_jumpField_6 ?_
  exact rt_i hc w d_CO_jumpField_7 (by rw [← e0, f_CO_jumpField] <;> rfl)
-- CO_s
def f_CO_s (σ : XS) : Int32 := x_regs σ (Int32.toNatClampNeg (((Int32.toUInt32 (x_instr σ) >>> (Int32.toUInt32 (21 : Int32) &&& Int32.toUInt32 31)).toInt32) &&& (31 : Int32)))
theorem d_CO_s_0 : decode b_CO_s 0 = .ok (.aload_n 0, 1) := by decide +kernel
theorem d_CO_s_1 : decode b_CO_s 1 = .ok (.getfield 14, 3) := by decide +kernel
theorem d_CO_s_4 : decode b_CO_s 4 = .ok (.aload_n 0, 1) := by decide +kernel
theorem d_CO_s_5 : decode b_CO_s 5 = .ok (.getfield 30, 3) := by decide +kernel
theorem d_CO_s_8 : decode b_CO_s 8 = .ok (.bipush 21, 2) := by decide +kernel
theorem d_CO_s_10 : decode b_CO_s 10 = .ok (.iushr, 1) := by decide +kernel
theorem d_CO_s_11 : decode b_CO_s 11 = .ok (.bipush 31, 2) := by decide +kernel
theorem d_CO_s_13 : decode b_CO_s 13 = .ok (.iand, 1) := by decide +kernel
theorem d_CO_s_14 : decode b_CO_s 14 = .ok (.iaload, 1) := by decide +kernel
theorem d_CO_s_15 : decode b_CO_s 15 = .ok (.ireturn, 1) := by decide +kernel
set_option maxHeartbeats 4000000 in
set_option maxRecDepth 100000 in
theorem c_CO_s (l : Launch) (E : Ev) (ad : Nat → Nat) (σ : XS) : rC xCl l E (xW E ad) y_CO_s b_CO_s 1 (Option.some Jvm.ClassFile.FieldType.int) (rmo 0 0) [.ref (ad 5)] σ ((σ, some (Value.int (f_CO_s σ)))) := by
  refine rC.of (by decide) (Nat.le_of_ble_eq_true rfl) ?_
  intro p e s m below meth c A ls hc w hl
  generalize e0 : (σ, some (Value.int (f_CO_s σ))) = Z
  have hc : Cx xCl E A p s m ([.ref (ad 5)] : List Value).toArray meth c b_CO_s 1 (Option.some Jvm.ClassFile.FieldType.int) "PageMachine$Core" := hc
  have hx := hc.1
  have hb := hc.2.1
  have ho := hc.2.2.2.2.2.1
  have hT := hc.2.2.2.2.2.2.1
  have hl : lv_has ls 1 [(0, .ref (ad 5))] := hl
  refine lv_aload_n hx hb d_CO_s_0 rfl (lv_at hl 0 rfl) ?_
  refine g_CO_registers hc w mw_123 d_CO_s_1 ?_
  refine lv_aload_n hx hb d_CO_s_4 rfl (lv_at hl 0 rfl) ?_
  refine g_CO_instruction hc w mw_125 d_CO_s_5 ?_
  refine lv_bipush (v := 21) hx hb d_CO_s_8 (by decide) ?_
  refine lv_iushr hx hb d_CO_s_10 rfl ?_
  refine lv_bipush (v := 31) hx hb d_CO_s_11 (by decide) ?_
  refine lv_iand hx hb d_CO_s_13 ?_
  refine a_CO_registers hc w (bd31 _) d_CO_s_14 ?_
  exact rt_i hc w d_CO_s_15 (by rw [← e0, f_CO_s] <;> rfl)
-- CO_t
def f_CO_t (σ : XS) : Int32 := x_regs σ (Int32.toNatClampNeg (((Int32.toUInt32 (x_instr σ) >>> (Int32.toUInt32 (16 : Int32) &&& Int32.toUInt32 31)).toInt32) &&& (31 : Int32)))
theorem d_CO_t_0 : decode b_CO_t 0 = .ok (.aload_n 0, 1) := by decide +kernel
theorem d_CO_t_1 : decode b_CO_t 1 = .ok (.getfield 14, 3) := by decide +kernel
theorem d_CO_t_4 : decode b_CO_t 4 = .ok (.aload_n 0, 1) := by decide +kernel
theorem d_CO_t_5 : decode b_CO_t 5 = .ok (.getfield 30, 3) := by decide +kernel
theorem d_CO_t_8 : decode b_CO_t 8 = .ok (.bipush 16, 2) := by decide +kernel
theorem d_CO_t_10 : decode b_CO_t 10 = .ok (.iushr, 1) := by decide +kernel
theorem d_CO_t_11 : decode b_CO_t 11 = .ok (.bipush 31, 2) := by decide +kernel
theorem d_CO_t_13 : decode b_CO_t 13 = .ok (.iand, 1) := by decide +kernel
theorem d_CO_t_14 : decode b_CO_t 14 = .ok (.iaload, 1) := by decide +kernel
theorem d_CO_t_15 : decode b_CO_t 15 = .ok (.ireturn, 1) := by decide +kernel
set_option maxHeartbeats 4000000 in
set_option maxRecDepth 100000 in
theorem c_CO_t (l : Launch) (E : Ev) (ad : Nat → Nat) (σ : XS) : rC xCl l E (xW E ad) y_CO_t b_CO_t 1 (Option.some Jvm.ClassFile.FieldType.int) (rmo 0 0) [.ref (ad 5)] σ ((σ, some (Value.int (f_CO_t σ)))) := by
  refine rC.of (by decide) (Nat.le_of_ble_eq_true rfl) ?_
  intro p e s m below meth c A ls hc w hl
  generalize e0 : (σ, some (Value.int (f_CO_t σ))) = Z
  have hc : Cx xCl E A p s m ([.ref (ad 5)] : List Value).toArray meth c b_CO_t 1 (Option.some Jvm.ClassFile.FieldType.int) "PageMachine$Core" := hc
  have hx := hc.1
  have hb := hc.2.1
  have ho := hc.2.2.2.2.2.1
  have hT := hc.2.2.2.2.2.2.1
  have hl : lv_has ls 1 [(0, .ref (ad 5))] := hl
  refine lv_aload_n hx hb d_CO_t_0 rfl (lv_at hl 0 rfl) ?_
  refine g_CO_registers hc w mw_123 d_CO_t_1 ?_
  refine lv_aload_n hx hb d_CO_t_4 rfl (lv_at hl 0 rfl) ?_
  refine g_CO_instruction hc w mw_125 d_CO_t_5 ?_
  refine lv_bipush (v := 16) hx hb d_CO_t_8 (by decide) ?_
  refine lv_iushr hx hb d_CO_t_10 rfl ?_
  refine lv_bipush (v := 31) hx hb d_CO_t_11 (by decide) ?_
  refine lv_iand hx hb d_CO_t_13 ?_
  refine a_CO_registers hc w (bd31 _) d_CO_t_14 ?_
  exact rt_i hc w d_CO_t_15 (by rw [← e0, f_CO_t] <;> rfl)
