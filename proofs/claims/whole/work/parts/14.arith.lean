-- IN_numberOfLeadingZeros
def f_IN_numberOfLeadingZeros_73 (σ : XS) (a1 : Int32) (v73_1 : Int32) (v73_0 : Int32) : Int32 := v73_1 - ((Int32.toUInt32 v73_0 >>> (Int32.toUInt32 (1 : Int32) &&& Int32.toUInt32 31)).toInt32)
def f_IN_numberOfLeadingZeros_61 (σ : XS) (a1 : Int32) (v61_1 : Int32) (v61_0 : Int32) : Int32 := if v61_0 < (4 : Int32) then (f_IN_numberOfLeadingZeros_73 σ a1 v61_1 v61_0) else (f_IN_numberOfLeadingZeros_73 σ a1 (v61_1 + (-2 : Int32)) ((Int32.toUInt32 v61_0 >>> (Int32.toUInt32 (2 : Int32) &&& Int32.toUInt32 31)).toInt32))
def f_IN_numberOfLeadingZeros_48 (σ : XS) (a1 : Int32) (v48_1 : Int32) (v48_0 : Int32) : Int32 := if v48_0 < (16 : Int32) then (f_IN_numberOfLeadingZeros_61 σ a1 v48_1 v48_0) else (f_IN_numberOfLeadingZeros_61 σ a1 (v48_1 + (-4 : Int32)) ((Int32.toUInt32 v48_0 >>> (Int32.toUInt32 (4 : Int32) &&& Int32.toUInt32 31)).toInt32))
def f_IN_numberOfLeadingZeros_33 (σ : XS) (a1 : Int32) (v33_1 : Int32) (v33_0 : Int32) : Int32 := if v33_0 < (256 : Int32) then (f_IN_numberOfLeadingZeros_48 σ a1 v33_1 v33_0) else (f_IN_numberOfLeadingZeros_48 σ a1 (v33_1 + (-8 : Int32)) ((Int32.toUInt32 v33_0 >>> (Int32.toUInt32 (8 : Int32) &&& Int32.toUInt32 31)).toInt32))
def f_IN_numberOfLeadingZeros (σ : XS) (a1 : Int32) : Int32 := if 0 < a1 then (if a1 < (65536 : Int32) then (f_IN_numberOfLeadingZeros_33 σ a1 (31 : Int32) a1) else (f_IN_numberOfLeadingZeros_33 σ a1 ((31 : Int32) + (-16 : Int32)) ((Int32.toUInt32 a1 >>> (Int32.toUInt32 (16 : Int32) &&& Int32.toUInt32 31)).toInt32))) else (if a1 = 0 then ((32 : Int32)) else ((0 : Int32)))
theorem d_IN_numberOfLeadingZeros_0 : decode b_IN_numberOfLeadingZeros 0 = .ok (.iload_n 0, 1) := by decide +kernel
theorem d_IN_numberOfLeadingZeros_1 : decode b_IN_numberOfLeadingZeros 1 = .ok (.ifCond .gt 14, 3) := by decide +kernel
theorem d_IN_numberOfLeadingZeros_4 : decode b_IN_numberOfLeadingZeros 4 = .ok (.iload_n 0, 1) := by decide +kernel
theorem d_IN_numberOfLeadingZeros_5 : decode b_IN_numberOfLeadingZeros 5 = .ok (.ifCond .ne 8, 3) := by decide +kernel
theorem d_IN_numberOfLeadingZeros_8 : decode b_IN_numberOfLeadingZeros 8 = .ok (.bipush 32, 2) := by decide +kernel
theorem d_IN_numberOfLeadingZeros_10 : decode b_IN_numberOfLeadingZeros 10 = .ok (.goto 4, 3) := by decide +kernel
theorem d_IN_numberOfLeadingZeros_13 : decode b_IN_numberOfLeadingZeros 13 = .ok (.iconst 0, 1) := by decide +kernel
theorem d_IN_numberOfLeadingZeros_14 : decode b_IN_numberOfLeadingZeros 14 = .ok (.ireturn, 1) := by decide +kernel
theorem d_IN_numberOfLeadingZeros_15 : decode b_IN_numberOfLeadingZeros 15 = .ok (.bipush 31, 2) := by decide +kernel
theorem d_IN_numberOfLeadingZeros_17 : decode b_IN_numberOfLeadingZeros 17 = .ok (.istore_n 1, 1) := by decide +kernel
theorem d_IN_numberOfLeadingZeros_18 : decode b_IN_numberOfLeadingZeros 18 = .ok (.iload_n 0, 1) := by decide +kernel
theorem d_IN_numberOfLeadingZeros_19 : decode b_IN_numberOfLeadingZeros 19 = .ok (.ldc_w 264, 3) := by decide +kernel
theorem d_IN_numberOfLeadingZeros_22 : decode b_IN_numberOfLeadingZeros 22 = .ok (.if_icmp .lt 11, 3) := by decide +kernel
theorem d_IN_numberOfLeadingZeros_25 : decode b_IN_numberOfLeadingZeros 25 = .ok (.iinc 1 (-16), 3) := by decide +kernel
theorem d_IN_numberOfLeadingZeros_28 : decode b_IN_numberOfLeadingZeros 28 = .ok (.iload_n 0, 1) := by decide +kernel
theorem d_IN_numberOfLeadingZeros_29 : decode b_IN_numberOfLeadingZeros 29 = .ok (.bipush 16, 2) := by decide +kernel
theorem d_IN_numberOfLeadingZeros_31 : decode b_IN_numberOfLeadingZeros 31 = .ok (.iushr, 1) := by decide +kernel
theorem d_IN_numberOfLeadingZeros_32 : decode b_IN_numberOfLeadingZeros 32 = .ok (.istore_n 0, 1) := by decide +kernel
theorem d_IN_numberOfLeadingZeros_33 : decode b_IN_numberOfLeadingZeros 33 = .ok (.iload_n 0, 1) := by decide +kernel
theorem d_IN_numberOfLeadingZeros_34 : decode b_IN_numberOfLeadingZeros 34 = .ok (.sipush 256, 3) := by decide +kernel
theorem d_IN_numberOfLeadingZeros_37 : decode b_IN_numberOfLeadingZeros 37 = .ok (.if_icmp .lt 11, 3) := by decide +kernel
theorem d_IN_numberOfLeadingZeros_40 : decode b_IN_numberOfLeadingZeros 40 = .ok (.iinc 1 (-8), 3) := by decide +kernel
theorem d_IN_numberOfLeadingZeros_43 : decode b_IN_numberOfLeadingZeros 43 = .ok (.iload_n 0, 1) := by decide +kernel
theorem d_IN_numberOfLeadingZeros_44 : decode b_IN_numberOfLeadingZeros 44 = .ok (.bipush 8, 2) := by decide +kernel
theorem d_IN_numberOfLeadingZeros_46 : decode b_IN_numberOfLeadingZeros 46 = .ok (.iushr, 1) := by decide +kernel
theorem d_IN_numberOfLeadingZeros_47 : decode b_IN_numberOfLeadingZeros 47 = .ok (.istore_n 0, 1) := by decide +kernel
theorem d_IN_numberOfLeadingZeros_48 : decode b_IN_numberOfLeadingZeros 48 = .ok (.iload_n 0, 1) := by decide +kernel
theorem d_IN_numberOfLeadingZeros_49 : decode b_IN_numberOfLeadingZeros 49 = .ok (.bipush 16, 2) := by decide +kernel
theorem d_IN_numberOfLeadingZeros_51 : decode b_IN_numberOfLeadingZeros 51 = .ok (.if_icmp .lt 10, 3) := by decide +kernel
theorem d_IN_numberOfLeadingZeros_54 : decode b_IN_numberOfLeadingZeros 54 = .ok (.iinc 1 (-4), 3) := by decide +kernel
theorem d_IN_numberOfLeadingZeros_57 : decode b_IN_numberOfLeadingZeros 57 = .ok (.iload_n 0, 1) := by decide +kernel
theorem d_IN_numberOfLeadingZeros_58 : decode b_IN_numberOfLeadingZeros 58 = .ok (.iconst 4, 1) := by decide +kernel
theorem d_IN_numberOfLeadingZeros_59 : decode b_IN_numberOfLeadingZeros 59 = .ok (.iushr, 1) := by decide +kernel
theorem d_IN_numberOfLeadingZeros_60 : decode b_IN_numberOfLeadingZeros 60 = .ok (.istore_n 0, 1) := by decide +kernel
theorem d_IN_numberOfLeadingZeros_61 : decode b_IN_numberOfLeadingZeros 61 = .ok (.iload_n 0, 1) := by decide +kernel
theorem d_IN_numberOfLeadingZeros_62 : decode b_IN_numberOfLeadingZeros 62 = .ok (.iconst 4, 1) := by decide +kernel
theorem d_IN_numberOfLeadingZeros_63 : decode b_IN_numberOfLeadingZeros 63 = .ok (.if_icmp .lt 10, 3) := by decide +kernel
theorem d_IN_numberOfLeadingZeros_66 : decode b_IN_numberOfLeadingZeros 66 = .ok (.iinc 1 (-2), 3) := by decide +kernel
theorem d_IN_numberOfLeadingZeros_69 : decode b_IN_numberOfLeadingZeros 69 = .ok (.iload_n 0, 1) := by decide +kernel
theorem d_IN_numberOfLeadingZeros_70 : decode b_IN_numberOfLeadingZeros 70 = .ok (.iconst 2, 1) := by decide +kernel
theorem d_IN_numberOfLeadingZeros_71 : decode b_IN_numberOfLeadingZeros 71 = .ok (.iushr, 1) := by decide +kernel
theorem d_IN_numberOfLeadingZeros_72 : decode b_IN_numberOfLeadingZeros 72 = .ok (.istore_n 0, 1) := by decide +kernel
theorem d_IN_numberOfLeadingZeros_73 : decode b_IN_numberOfLeadingZeros 73 = .ok (.iload_n 1, 1) := by decide +kernel
theorem d_IN_numberOfLeadingZeros_74 : decode b_IN_numberOfLeadingZeros 74 = .ok (.iload_n 0, 1) := by decide +kernel
theorem d_IN_numberOfLeadingZeros_75 : decode b_IN_numberOfLeadingZeros 75 = .ok (.iconst 1, 1) := by decide +kernel
theorem d_IN_numberOfLeadingZeros_76 : decode b_IN_numberOfLeadingZeros 76 = .ok (.iushr, 1) := by decide +kernel
theorem d_IN_numberOfLeadingZeros_77 : decode b_IN_numberOfLeadingZeros 77 = .ok (.isub, 1) := by decide +kernel
theorem d_IN_numberOfLeadingZeros_78 : decode b_IN_numberOfLeadingZeros 78 = .ok (.ireturn, 1) := by decide +kernel
set_option maxHeartbeats 4000000 in
set_option maxRecDepth 100000 in
theorem c_IN_numberOfLeadingZeros (l : Launch) (E : Ev) (ad : Nat → Nat) (σ : XS) (a1 : Int32) : rC xCl l E (xW E ad) y_IN_numberOfLeadingZeros b_IN_numberOfLeadingZeros 2 (Option.some Jvm.ClassFile.FieldType.int) (rmo 0 0) [.int a1] σ ((σ, some (Value.int (f_IN_numberOfLeadingZeros σ a1)))) := by
  refine rC.of (by decide) (Nat.le_of_ble_eq_true rfl) ?_
  intro p e s m below meth c A ls hc w hl
  generalize e0 : (σ, some (Value.int (f_IN_numberOfLeadingZeros σ a1))) = Z
  have hc : Cx xCl E A p s m ([.int a1] : List Value).toArray meth c b_IN_numberOfLeadingZeros 2 (Option.some Jvm.ClassFile.FieldType.int) "java/lang/Integer" := hc
  have hx := hc.1
  have hb := hc.2.1
  have ho := hc.2.2.2.2.2.1
  have hT := hc.2.2.2.2.2.2.1
  have hl : lv_has ls 2 [(0, .int a1)] := hl
  have J73 : ∀ (v73_1 : Int32) (v73_0 : Int32) (H : Heap) (locs : List Loc) (ls : Array Slot), Wd xCl E A s.heap H locs (xW E ad σ) → lv_has ls 2 [(1, .int v73_1), (0, .int v73_0)] → (σ, some (Value.int (f_IN_numberOfLeadingZeros_73 σ a1 v73_1 v73_0))) = Z → W p l e (rmo 0 0) s m ([.int a1] : List Value).toArray below meth c H locs 0 0 (MQ below (rQ xCl (xW E ad) E A Z) ([.int a1] : List Value).toArray s 0 0 A) (F0 m 73 ls []) := by
    intro v73_1 v73_0 H locs ls w hl e73
    refine lv_iload_n hx hb d_IN_numberOfLeadingZeros_73 rfl (lv_at hl 0 rfl) ?_
    refine lv_iload_n hx hb d_IN_numberOfLeadingZeros_74 rfl (lv_at hl 1 rfl) ?_
    refine lv_iconst (v := 1) hx hb d_IN_numberOfLeadingZeros_75 (by decide) ?_
    refine lv_iushr hx hb d_IN_numberOfLeadingZeros_76 rfl ?_
    refine lv_isub hx hb d_IN_numberOfLeadingZeros_77 ?_
    exact rt_i hc w d_IN_numberOfLeadingZeros_78 (by rw [← e73, f_IN_numberOfLeadingZeros_73] <;> rfl)
  have J61 : ∀ (v61_1 : Int32) (v61_0 : Int32) (H : Heap) (locs : List Loc) (ls : Array Slot), Wd xCl E A s.heap H locs (xW E ad σ) → lv_has ls 2 [(1, .int v61_1), (0, .int v61_0)] → (σ, some (Value.int (f_IN_numberOfLeadingZeros_61 σ a1 v61_1 v61_0))) = Z → W p l e (rmo 0 0) s m ([.int a1] : List Value).toArray below meth c H locs 0 0 (MQ below (rQ xCl (xW E ad) E A Z) ([.int a1] : List Value).toArray s 0 0 A) (F0 m 61 ls []) := by
    intro v61_1 v61_0 H locs ls w hl e61
    refine lv_iload_n hx hb d_IN_numberOfLeadingZeros_61 rfl (lv_at hl 1 rfl) ?_
    refine lv_iconst (v := 4) hx hb d_IN_numberOfLeadingZeros_62 (by decide) ?_
    refine lv_icmp_lt (tgt := 73) hx hb d_IN_numberOfLeadingZeros_63 (by decide) (fun q63 => ?_) (fun q63 => ?_)
    · exact J73 v61_1 v61_0 _ _ _ w (lv_sub hl [0, 1] rfl) (by rw [← e61, f_IN_numberOfLeadingZeros_61, if_pos q63])
    · refine lv_iinc (v := v61_1 + (-2 : Int32)) (lv' := [(1, .int (v61_1 + (-2 : Int32))), (0, .int v61_0)]) hx hb d_IN_numberOfLeadingZeros_66 hl (k := 0) rfl rfl (by decide) rfl (fun ls hl => ?_)
      refine lv_iload_n hx hb d_IN_numberOfLeadingZeros_69 rfl (lv_at hl 1 rfl) ?_
      refine lv_iconst (v := 2) hx hb d_IN_numberOfLeadingZeros_70 (by decide) ?_
      refine lv_iushr hx hb d_IN_numberOfLeadingZeros_71 rfl ?_
      refine lv_istore_n (lv' := [(0, .int ((Int32.toUInt32 v61_0 >>> (Int32.toUInt32 (2 : Int32) &&& Int32.toUInt32 31)).toInt32)), (1, .int (v61_1 + (-2 : Int32)))]) hx hb d_IN_numberOfLeadingZeros_72 rfl hl (by decide) rfl (fun ls hl => ?_)
      exact J73 (v61_1 + (-2 : Int32)) ((Int32.toUInt32 v61_0 >>> (Int32.toUInt32 (2 : Int32) &&& Int32.toUInt32 31)).toInt32) _ _ _ w (lv_sub hl [1, 0] rfl) (by rw [← e61, f_IN_numberOfLeadingZeros_61, if_neg q63])
  have J48 : ∀ (v48_1 : Int32) (v48_0 : Int32) (H : Heap) (locs : List Loc) (ls : Array Slot), Wd xCl E A s.heap H locs (xW E ad σ) → lv_has ls 2 [(1, .int v48_1), (0, .int v48_0)] → (σ, some (Value.int (f_IN_numberOfLeadingZeros_48 σ a1 v48_1 v48_0))) = Z → W p l e (rmo 0 0) s m ([.int a1] : List Value).toArray below meth c H locs 0 0 (MQ below (rQ xCl (xW E ad) E A Z) ([.int a1] : List Value).toArray s 0 0 A) (F0 m 48 ls []) := by
    intro v48_1 v48_0 H locs ls w hl e48
    refine lv_iload_n hx hb d_IN_numberOfLeadingZeros_48 rfl (lv_at hl 1 rfl) ?_
    refine lv_bipush (v := 16) hx hb d_IN_numberOfLeadingZeros_49 (by decide) ?_
    refine lv_icmp_lt (tgt := 61) hx hb d_IN_numberOfLeadingZeros_51 (by decide) (fun q51 => ?_) (fun q51 => ?_)
    · exact J61 v48_1 v48_0 _ _ _ w (lv_sub hl [0, 1] rfl) (by rw [← e48, f_IN_numberOfLeadingZeros_48, if_pos q51])
    · refine lv_iinc (v := v48_1 + (-4 : Int32)) (lv' := [(1, .int (v48_1 + (-4 : Int32))), (0, .int v48_0)]) hx hb d_IN_numberOfLeadingZeros_54 hl (k := 0) rfl rfl (by decide) rfl (fun ls hl => ?_)
      refine lv_iload_n hx hb d_IN_numberOfLeadingZeros_57 rfl (lv_at hl 1 rfl) ?_
      refine lv_iconst (v := 4) hx hb d_IN_numberOfLeadingZeros_58 (by decide) ?_
      refine lv_iushr hx hb d_IN_numberOfLeadingZeros_59 rfl ?_
      refine lv_istore_n (lv' := [(0, .int ((Int32.toUInt32 v48_0 >>> (Int32.toUInt32 (4 : Int32) &&& Int32.toUInt32 31)).toInt32)), (1, .int (v48_1 + (-4 : Int32)))]) hx hb d_IN_numberOfLeadingZeros_60 rfl hl (by decide) rfl (fun ls hl => ?_)
      exact J61 (v48_1 + (-4 : Int32)) ((Int32.toUInt32 v48_0 >>> (Int32.toUInt32 (4 : Int32) &&& Int32.toUInt32 31)).toInt32) _ _ _ w (lv_sub hl [1, 0] rfl) (by rw [← e48, f_IN_numberOfLeadingZeros_48, if_neg q51])
  have J33 : ∀ (v33_1 : Int32) (v33_0 : Int32) (H : Heap) (locs : List Loc) (ls : Array Slot), Wd xCl E A s.heap H locs (xW E ad σ) → lv_has ls 2 [(1, .int v33_1), (0, .int v33_0)] → (σ, some (Value.int (f_IN_numberOfLeadingZeros_33 σ a1 v33_1 v33_0))) = Z → W p l e (rmo 0 0) s m ([.int a1] : List Value).toArray below meth c H locs 0 0 (MQ below (rQ xCl (xW E ad) E A Z) ([.int a1] : List Value).toArray s 0 0 A) (F0 m 33 ls []) := by
    intro v33_1 v33_0 H locs ls w hl e33
    refine lv_iload_n hx hb d_IN_numberOfLeadingZeros_33 rfl (lv_at hl 1 rfl) ?_
    refine lv_sipush (v := 256) hx hb d_IN_numberOfLeadingZeros_34 (by decide) ?_
    refine lv_icmp_lt (tgt := 48) hx hb d_IN_numberOfLeadingZeros_37 (by decide) (fun q37 => ?_) (fun q37 => ?_)
    · exact J48 v33_1 v33_0 _ _ _ w (lv_sub hl [0, 1] rfl) (by rw [← e33, f_IN_numberOfLeadingZeros_33, if_pos q37])
    · refine lv_iinc (v := v33_1 + (-8 : Int32)) (lv' := [(1, .int (v33_1 + (-8 : Int32))), (0, .int v33_0)]) hx hb d_IN_numberOfLeadingZeros_40 hl (k := 0) rfl rfl (by decide) rfl (fun ls hl => ?_)
      refine lv_iload_n hx hb d_IN_numberOfLeadingZeros_43 rfl (lv_at hl 1 rfl) ?_
      refine lv_bipush (v := 8) hx hb d_IN_numberOfLeadingZeros_44 (by decide) ?_
      refine lv_iushr hx hb d_IN_numberOfLeadingZeros_46 rfl ?_
      refine lv_istore_n (lv' := [(0, .int ((Int32.toUInt32 v33_0 >>> (Int32.toUInt32 (8 : Int32) &&& Int32.toUInt32 31)).toInt32)), (1, .int (v33_1 + (-8 : Int32)))]) hx hb d_IN_numberOfLeadingZeros_47 rfl hl (by decide) rfl (fun ls hl => ?_)
      exact J48 (v33_1 + (-8 : Int32)) ((Int32.toUInt32 v33_0 >>> (Int32.toUInt32 (8 : Int32) &&& Int32.toUInt32 31)).toInt32) _ _ _ w (lv_sub hl [1, 0] rfl) (by rw [← e33, f_IN_numberOfLeadingZeros_33, if_neg q37])
  refine lv_iload_n hx hb d_IN_numberOfLeadingZeros_0 rfl (lv_at hl 0 rfl) ?_
  refine lv_if_gt (tgt := 15) hx hb d_IN_numberOfLeadingZeros_1 (by decide) (fun q1 => ?_) (fun q1 => ?_)
  · refine lv_bipush (v := 31) hx hb d_IN_numberOfLeadingZeros_15 (by decide) ?_
    refine lv_istore_n (lv' := [(1, .int (31 : Int32)), (0, .int a1)]) hx hb d_IN_numberOfLeadingZeros_17 rfl hl (by decide) rfl (fun ls hl => ?_)
    refine lv_iload_n hx hb d_IN_numberOfLeadingZeros_18 rfl (lv_at hl 1 rfl) ?_
    refine lv_ldcw (v := 65536) hx hb ho (hT _ mw_789) d_IN_numberOfLeadingZeros_19 ?_
    refine lv_icmp_lt (tgt := 33) hx hb d_IN_numberOfLeadingZeros_22 (by decide) (fun q22 => ?_) (fun q22 => ?_)
    · exact J33 (31 : Int32) a1 _ _ _ w (lv_sub hl [0, 1] rfl) (by rw [← e0, f_IN_numberOfLeadingZeros, if_pos q1, if_pos q22])
    · refine lv_iinc (v := (31 : Int32) + (-16 : Int32)) (lv' := [(1, .int ((31 : Int32) + (-16 : Int32))), (0, .int a1)]) hx hb d_IN_numberOfLeadingZeros_25 hl (k := 0) rfl rfl (by decide) rfl (fun ls hl => ?_)
      refine lv_iload_n hx hb d_IN_numberOfLeadingZeros_28 rfl (lv_at hl 1 rfl) ?_
      refine lv_bipush (v := 16) hx hb d_IN_numberOfLeadingZeros_29 (by decide) ?_
      refine lv_iushr hx hb d_IN_numberOfLeadingZeros_31 rfl ?_
      refine lv_istore_n (lv' := [(0, .int ((Int32.toUInt32 a1 >>> (Int32.toUInt32 (16 : Int32) &&& Int32.toUInt32 31)).toInt32)), (1, .int ((31 : Int32) + (-16 : Int32)))]) hx hb d_IN_numberOfLeadingZeros_32 rfl hl (by decide) rfl (fun ls hl => ?_)
      exact J33 ((31 : Int32) + (-16 : Int32)) ((Int32.toUInt32 a1 >>> (Int32.toUInt32 (16 : Int32) &&& Int32.toUInt32 31)).toInt32) _ _ _ w (lv_sub hl [1, 0] rfl) (by rw [← e0, f_IN_numberOfLeadingZeros, if_pos q1, if_neg q22])
  · refine lv_iload_n hx hb d_IN_numberOfLeadingZeros_4 rfl (lv_at hl 0 rfl) ?_
    refine lv_if_ne (tgt := 13) hx hb d_IN_numberOfLeadingZeros_5 (by decide) (fun q5 => ?_) (fun q5 => ?_)
    · refine lv_iconst (v := 0) hx hb d_IN_numberOfLeadingZeros_13 (by decide) ?_
      exact rt_i hc w d_IN_numberOfLeadingZeros_14 (by rw [← e0, f_IN_numberOfLeadingZeros, if_neg q1, if_neg q5] <;> rfl)
    · refine lv_bipush (v := 32) hx hb d_IN_numberOfLeadingZeros_8 (by decide) ?_
      refine lv_goto (tgt := 14) hx hb d_IN_numberOfLeadingZeros_10 (by decide) ?_
      exact rt_i hc w d_IN_numberOfLeadingZeros_14 (by rw [← e0, f_IN_numberOfLeadingZeros, if_neg q1, if_pos q5] <;> rfl)
-- AR_plain
def f_AR_plain (σ : XS) (a1 : Int32) : Int64 := (Int32.toInt64 a1) &&& (4294967295 : Int64)
theorem d_AR_plain_0 : decode b_AR_plain 0 = .ok (.iload_n 0, 1) := by decide +kernel
theorem d_AR_plain_1 : decode b_AR_plain 1 = .ok (.i2l, 1) := by decide +kernel
theorem d_AR_plain_2 : decode b_AR_plain 2 = .ok (.ldc2_w 117, 3) := by decide +kernel
theorem d_AR_plain_5 : decode b_AR_plain 5 = .ok (.land, 1) := by decide +kernel
theorem d_AR_plain_6 : decode b_AR_plain 6 = .ok (.lreturn, 1) := by decide +kernel
set_option maxHeartbeats 4000000 in
set_option maxRecDepth 100000 in
theorem c_AR_plain (l : Launch) (E : Ev) (ad : Nat → Nat) (σ : XS) (a1 : Int32) : rC xCl l E (xW E ad) y_AR_plain b_AR_plain 1 (Option.some Jvm.ClassFile.FieldType.long) (rmo 0 0) [.int a1] σ ((σ, some (Value.long (f_AR_plain σ a1)))) := by
  refine rC.of (by decide) (Nat.le_of_ble_eq_true rfl) ?_
  intro p e s m below meth c A ls hc w hl
  generalize e0 : (σ, some (Value.long (f_AR_plain σ a1))) = Z
  have hc : Cx xCl E A p s m ([.int a1] : List Value).toArray meth c b_AR_plain 1 (Option.some Jvm.ClassFile.FieldType.long) "PageMachine$Arithmetic" := hc
  have hx := hc.1
  have hb := hc.2.1
  have ho := hc.2.2.2.2.2.1
  have hT := hc.2.2.2.2.2.2.1
  have hl : lv_has ls 1 [(0, .int a1)] := hl
  refine lv_iload_n hx hb d_AR_plain_0 rfl (lv_at hl 0 rfl) ?_
  refine lv_i2l hx hb d_AR_plain_1 rfl ?_
  refine lv_ldc2 (v := 4294967295) hx hb ho (hT _ mw_612) d_AR_plain_2 ?_
  refine lv_land hx hb d_AR_plain_5 ?_
  exact rt_l hc w d_AR_plain_6 (by rw [← e0, f_AR_plain] <;> rfl)
-- AR_plainlyBelow
def f_AR_plainlyBelow (σ : XS) (a1 : Int32) (a2 : Int32) : Bool := if (a2 + (-2147483648 : Int32)) ≤ (a1 + (-2147483648 : Int32)) then (false) else (true)
theorem d_AR_plainlyBelow_0 : decode b_AR_plainlyBelow 0 = .ok (.iload_n 0, 1) := by decide +kernel
theorem d_AR_plainlyBelow_1 : decode b_AR_plainlyBelow 1 = .ok (.ldc 119, 2) := by decide +kernel
theorem d_AR_plainlyBelow_3 : decode b_AR_plainlyBelow 3 = .ok (.iadd, 1) := by decide +kernel
theorem d_AR_plainlyBelow_4 : decode b_AR_plainlyBelow 4 = .ok (.iload_n 1, 1) := by decide +kernel
theorem d_AR_plainlyBelow_5 : decode b_AR_plainlyBelow 5 = .ok (.ldc 119, 2) := by decide +kernel
theorem d_AR_plainlyBelow_7 : decode b_AR_plainlyBelow 7 = .ok (.iadd, 1) := by decide +kernel
theorem d_AR_plainlyBelow_8 : decode b_AR_plainlyBelow 8 = .ok (.if_icmp .ge 7, 3) := by decide +kernel
theorem d_AR_plainlyBelow_11 : decode b_AR_plainlyBelow 11 = .ok (.iconst 1, 1) := by decide +kernel
theorem d_AR_plainlyBelow_12 : decode b_AR_plainlyBelow 12 = .ok (.goto 4, 3) := by decide +kernel
theorem d_AR_plainlyBelow_15 : decode b_AR_plainlyBelow 15 = .ok (.iconst 0, 1) := by decide +kernel
theorem d_AR_plainlyBelow_16 : decode b_AR_plainlyBelow 16 = .ok (.ireturn, 1) := by decide +kernel
set_option maxHeartbeats 4000000 in
set_option maxRecDepth 100000 in
theorem c_AR_plainlyBelow (l : Launch) (E : Ev) (ad : Nat → Nat) (σ : XS) (a1 : Int32) (a2 : Int32) : rC xCl l E (xW E ad) y_AR_plainlyBelow b_AR_plainlyBelow 2 (Option.some Jvm.ClassFile.FieldType.boolean) (rmo 0 0) [.int a1, .int a2] σ ((σ, some (Value.int (zb (f_AR_plainlyBelow σ a1 a2))))) := by
  refine rC.of (by decide) (Nat.le_of_ble_eq_true rfl) ?_
  intro p e s m below meth c A ls hc w hl
  generalize e0 : (σ, some (Value.int (zb (f_AR_plainlyBelow σ a1 a2)))) = Z
  have hc : Cx xCl E A p s m ([.int a1, .int a2] : List Value).toArray meth c b_AR_plainlyBelow 2 (Option.some Jvm.ClassFile.FieldType.boolean) "PageMachine$Arithmetic" := hc
  have hx := hc.1
  have hb := hc.2.1
  have ho := hc.2.2.2.2.2.1
  have hT := hc.2.2.2.2.2.2.1
  have hl : lv_has ls 2 [(0, .int a1), (1, .int a2)] := hl
  refine lv_iload_n hx hb d_AR_plainlyBelow_0 rfl (lv_at hl 0 rfl) ?_
  refine lv_ldc (v := -2147483648) hx hb ho (hT _ mw_632) d_AR_plainlyBelow_1 ?_
  refine lv_iadd hx hb d_AR_plainlyBelow_3 ?_
  refine lv_iload_n hx hb d_AR_plainlyBelow_4 rfl (lv_at hl 1 rfl) ?_
  refine lv_ldc (v := -2147483648) hx hb ho (hT _ mw_632) d_AR_plainlyBelow_5 ?_
  refine lv_iadd hx hb d_AR_plainlyBelow_7 ?_
  refine lv_icmp_ge (tgt := 15) hx hb d_AR_plainlyBelow_8 (by decide) (fun q8 => ?_) (fun q8 => ?_)
  · refine lv_iconst (v := 0) hx hb d_AR_plainlyBelow_15 (by decide) ?_
    exact rt_z (v := false) hc w d_AR_plainlyBelow_16 rfl (by rw [← e0, f_AR_plainlyBelow, if_pos q8] <;> rfl)
  · refine lv_iconst (v := 1) hx hb d_AR_plainlyBelow_11 (by decide) ?_
    refine lv_goto (tgt := 16) hx hb d_AR_plainlyBelow_12 (by decide) ?_
    exact rt_z (v := true) hc w d_AR_plainlyBelow_16 rfl (by rw [← e0, f_AR_plainlyBelow, if_neg q8] <;> rfl)
-- AR_product
def f_AR_product (σ : XS) : Int64 := (Int32.toInt64 (f_CO_s σ)) * (Int32.toInt64 (f_CO_t σ))
theorem d_AR_product_0 : decode b_AR_product 0 = .ok (.aload_n 0, 1) := by decide +kernel
theorem d_AR_product_1 : decode b_AR_product 1 = .ok (.getfield 7, 3) := by decide +kernel
theorem d_AR_product_4 : decode b_AR_product 4 = .ok (.invokevirtual 56, 3) := by decide +kernel
theorem d_AR_product_7 : decode b_AR_product 7 = .ok (.i2l, 1) := by decide +kernel
theorem d_AR_product_8 : decode b_AR_product 8 = .ok (.aload_n 0, 1) := by decide +kernel
theorem d_AR_product_9 : decode b_AR_product 9 = .ok (.getfield 7, 3) := by decide +kernel
theorem d_AR_product_12 : decode b_AR_product 12 = .ok (.invokevirtual 38, 3) := by decide +kernel
theorem d_AR_product_15 : decode b_AR_product 15 = .ok (.i2l, 1) := by decide +kernel
theorem d_AR_product_16 : decode b_AR_product 16 = .ok (.lmul, 1) := by decide +kernel
theorem d_AR_product_17 : decode b_AR_product 17 = .ok (.lreturn, 1) := by decide +kernel
set_option maxHeartbeats 4000000 in
set_option maxRecDepth 100000 in
theorem c_AR_product (l : Launch) (E : Ev) (ad : Nat → Nat) (σ : XS) : rC xCl l E (xW E ad) y_AR_product b_AR_product 1 (Option.some Jvm.ClassFile.FieldType.long) (rmo 1 20) [.ref (ad 7)] σ ((σ, some (Value.long (f_AR_product σ)))) := by
  refine rC.of (by decide) (Nat.le_of_ble_eq_true rfl) ?_
  intro p e s m below meth c A ls hc w hl
  generalize e0 : (σ, some (Value.long (f_AR_product σ))) = Z
  have hc : Cx xCl E A p s m ([.ref (ad 7)] : List Value).toArray meth c b_AR_product 1 (Option.some Jvm.ClassFile.FieldType.long) "PageMachine$Arithmetic" := hc
  have hx := hc.1
  have hb := hc.2.1
  have ho := hc.2.2.2.2.2.1
  have hT := hc.2.2.2.2.2.2.1
  have hl : lv_has ls 1 [(0, .ref (ad 7))] := hl
  refine lv_aload_n hx hb d_AR_product_0 rfl (lv_at hl 0 rfl) ?_
  refine g_AR_core hc w mw_161 d_AR_product_1 ?_
  refine rVI (rest := []) hc w (c_CO_s l E ad σ) kv_CO_s mw_584 5 rfl rfl ⟨Nat.le_of_ble_eq_true rfl, Nat.le_of_ble_eq_true rfl⟩ hl.1 rfl (Nat.le_of_ble_eq_true rfl) ⟨Nat.zero_le _, Nat.zero_le _⟩ d_AR_product_4 (fun H locs w => ?_)
  refine lv_i2l hx hb d_AR_product_7 rfl ?_
  refine lv_aload_n hx hb d_AR_product_8 rfl (lv_at hl 0 rfl) ?_
  refine g_AR_core hc w mw_161 d_AR_product_9 ?_
  refine rVI (rest := [.long (Int32.toInt64 (f_CO_s σ))]) hc w (c_CO_t l E ad σ) kv_CO_t mw_574 5 rfl rfl ⟨Nat.le_of_ble_eq_true rfl, Nat.le_of_ble_eq_true rfl⟩ hl.1 rfl (Nat.le_of_ble_eq_true rfl) ⟨Nat.zero_le _, Nat.zero_le _⟩ d_AR_product_12 (fun H locs w => ?_)
  refine lv_i2l hx hb d_AR_product_15 rfl ?_
  refine lv_lmul hx hb d_AR_product_16 ?_
  exact rt_l hc w d_AR_product_17 (by rw [← e0, f_AR_product] <;> rfl)
-- AR_plainProduct
def f_AR_plainProduct (σ : XS) : Int64 := (f_AR_plain σ (f_CO_s σ)) * (f_AR_plain σ (f_CO_t σ))
theorem d_AR_plainProduct_0 : decode b_AR_plainProduct 0 = .ok (.aload_n 0, 1) := by decide +kernel
theorem d_AR_plainProduct_1 : decode b_AR_plainProduct 1 = .ok (.getfield 7, 3) := by decide +kernel
theorem d_AR_plainProduct_4 : decode b_AR_plainProduct 4 = .ok (.invokevirtual 56, 3) := by decide +kernel
theorem d_AR_plainProduct_7 : decode b_AR_plainProduct 7 = .ok (.invokestatic 81, 3) := by decide +kernel
theorem d_AR_plainProduct_10 : decode b_AR_plainProduct 10 = .ok (.aload_n 0, 1) := by decide +kernel
theorem d_AR_plainProduct_11 : decode b_AR_plainProduct 11 = .ok (.getfield 7, 3) := by decide +kernel
theorem d_AR_plainProduct_14 : decode b_AR_plainProduct 14 = .ok (.invokevirtual 38, 3) := by decide +kernel
theorem d_AR_plainProduct_17 : decode b_AR_plainProduct 17 = .ok (.invokestatic 81, 3) := by decide +kernel
theorem d_AR_plainProduct_20 : decode b_AR_plainProduct 20 = .ok (.lmul, 1) := by decide +kernel
theorem d_AR_plainProduct_21 : decode b_AR_plainProduct 21 = .ok (.lreturn, 1) := by decide +kernel
set_option maxHeartbeats 4000000 in
set_option maxRecDepth 100000 in
theorem c_AR_plainProduct (l : Launch) (E : Ev) (ad : Nat → Nat) (σ : XS) : rC xCl l E (xW E ad) y_AR_plainProduct b_AR_plainProduct 1 (Option.some Jvm.ClassFile.FieldType.long) (rmo 1 20) [.ref (ad 7)] σ ((σ, some (Value.long (f_AR_plainProduct σ)))) := by
  refine rC.of (by decide) (Nat.le_of_ble_eq_true rfl) ?_
  intro p e s m below meth c A ls hc w hl
  generalize e0 : (σ, some (Value.long (f_AR_plainProduct σ))) = Z
  have hc : Cx xCl E A p s m ([.ref (ad 7)] : List Value).toArray meth c b_AR_plainProduct 1 (Option.some Jvm.ClassFile.FieldType.long) "PageMachine$Arithmetic" := hc
  have hx := hc.1
  have hb := hc.2.1
  have ho := hc.2.2.2.2.2.1
  have hT := hc.2.2.2.2.2.2.1
  have hl : lv_has ls 1 [(0, .ref (ad 7))] := hl
  refine lv_aload_n hx hb d_AR_plainProduct_0 rfl (lv_at hl 0 rfl) ?_
  refine g_AR_core hc w mw_161 d_AR_plainProduct_1 ?_
  refine rVI (rest := []) hc w (c_CO_s l E ad σ) kv_CO_s mw_584 5 rfl rfl ⟨Nat.le_of_ble_eq_true rfl, Nat.le_of_ble_eq_true rfl⟩ hl.1 rfl (Nat.le_of_ble_eq_true rfl) ⟨Nat.zero_le _, Nat.zero_le _⟩ d_AR_plainProduct_4 (fun H locs w => ?_)
  refine rSL (rest := []) hc w (c_AR_plain l E ad σ (f_CO_s σ)) ks_AR_plain mw_609 ⟨Nat.le_of_ble_eq_true rfl, Nat.le_of_ble_eq_true rfl⟩ hl.1 rfl (Nat.le_of_ble_eq_true rfl) ⟨Nat.zero_le _, Nat.zero_le _⟩ d_AR_plainProduct_7 (fun H locs w => ?_)
  refine lv_aload_n hx hb d_AR_plainProduct_10 rfl (lv_at hl 0 rfl) ?_
  refine g_AR_core hc w mw_161 d_AR_plainProduct_11 ?_
  refine rVI (rest := [.long (f_AR_plain σ (f_CO_s σ))]) hc w (c_CO_t l E ad σ) kv_CO_t mw_574 5 rfl rfl ⟨Nat.le_of_ble_eq_true rfl, Nat.le_of_ble_eq_true rfl⟩ hl.1 rfl (Nat.le_of_ble_eq_true rfl) ⟨Nat.zero_le _, Nat.zero_le _⟩ d_AR_plainProduct_14 (fun H locs w => ?_)
  refine rSL (rest := [.long (f_AR_plain σ (f_CO_s σ))]) hc w (c_AR_plain l E ad σ (f_CO_t σ)) ks_AR_plain mw_609 ⟨Nat.le_of_ble_eq_true rfl, Nat.le_of_ble_eq_true rfl⟩ hl.1 rfl (Nat.le_of_ble_eq_true rfl) ⟨Nat.zero_le _, Nat.zero_le _⟩ d_AR_plainProduct_17 (fun H locs w => ?_)
  refine lv_lmul hx hb d_AR_plainProduct_20 ?_
  exact rt_l hc w d_AR_plainProduct_21 (by rw [← e0, f_AR_plainProduct] <;> rfl)
-- AR_hiLo
def f_AR_hiLo (σ : XS) : Int64 := ((Int32.toInt64 (x_hi σ)) <<< (Int32.toInt64 (32 : Int32) &&& 63)) ||| (f_AR_plain σ (x_lo σ))
theorem d_AR_hiLo_0 : decode b_AR_hiLo 0 = .ok (.aload_n 0, 1) := by decide +kernel
theorem d_AR_hiLo_1 : decode b_AR_hiLo 1 = .ok (.getfield 7, 3) := by decide +kernel
theorem d_AR_hiLo_4 : decode b_AR_hiLo 4 = .ok (.getfield 59, 3) := by decide +kernel
theorem d_AR_hiLo_7 : decode b_AR_hiLo 7 = .ok (.i2l, 1) := by decide +kernel
theorem d_AR_hiLo_8 : decode b_AR_hiLo 8 = .ok (.bipush 32, 2) := by decide +kernel
theorem d_AR_hiLo_10 : decode b_AR_hiLo 10 = .ok (.lshl, 1) := by decide +kernel
theorem d_AR_hiLo_11 : decode b_AR_hiLo 11 = .ok (.aload_n 0, 1) := by decide +kernel
theorem d_AR_hiLo_12 : decode b_AR_hiLo 12 = .ok (.getfield 7, 3) := by decide +kernel
theorem d_AR_hiLo_15 : decode b_AR_hiLo 15 = .ok (.getfield 63, 3) := by decide +kernel
theorem d_AR_hiLo_18 : decode b_AR_hiLo 18 = .ok (.invokestatic 81, 3) := by decide +kernel
theorem d_AR_hiLo_21 : decode b_AR_hiLo 21 = .ok (.lor, 1) := by decide +kernel
theorem d_AR_hiLo_22 : decode b_AR_hiLo 22 = .ok (.lreturn, 1) := by decide +kernel
set_option maxHeartbeats 4000000 in
set_option maxRecDepth 100000 in
theorem c_AR_hiLo (l : Launch) (E : Ev) (ad : Nat → Nat) (σ : XS) : rC xCl l E (xW E ad) y_AR_hiLo b_AR_hiLo 1 (Option.some Jvm.ClassFile.FieldType.long) (rmo 1 20) [.ref (ad 7)] σ ((σ, some (Value.long (f_AR_hiLo σ)))) := by
  refine rC.of (by decide) (Nat.le_of_ble_eq_true rfl) ?_
  intro p e s m below meth c A ls hc w hl
  generalize e0 : (σ, some (Value.long (f_AR_hiLo σ))) = Z
  have hc : Cx xCl E A p s m ([.ref (ad 7)] : List Value).toArray meth c b_AR_hiLo 1 (Option.some Jvm.ClassFile.FieldType.long) "PageMachine$Arithmetic" := hc
  have hx := hc.1
  have hb := hc.2.1
  have ho := hc.2.2.2.2.2.1
  have hT := hc.2.2.2.2.2.2.1
  have hl : lv_has ls 1 [(0, .ref (ad 7))] := hl
  refine lv_aload_n hx hb d_AR_hiLo_0 rfl (lv_at hl 0 rfl) ?_
  refine g_AR_core hc w mw_161 d_AR_hiLo_1 ?_
  refine g_CO_hi hc w mw_107 d_AR_hiLo_4 ?_
  refine lv_i2l hx hb d_AR_hiLo_7 rfl ?_
  refine lv_bipush (v := 32) hx hb d_AR_hiLo_8 (by decide) ?_
  refine lv_lshl hx hb d_AR_hiLo_10 rfl ?_
  refine lv_aload_n hx hb d_AR_hiLo_11 rfl (lv_at hl 0 rfl) ?_
  refine g_AR_core hc w mw_161 d_AR_hiLo_12 ?_
  refine g_CO_lo hc w mw_110 d_AR_hiLo_15 ?_
  refine rSL (rest := [.long ((Int32.toInt64 (x_hi σ)) <<< (Int32.toInt64 (32 : Int32) &&& 63))]) hc w (c_AR_plain l E ad σ (x_lo σ)) ks_AR_plain mw_609 ⟨Nat.le_of_ble_eq_true rfl, Nat.le_of_ble_eq_true rfl⟩ hl.1 rfl (Nat.le_of_ble_eq_true rfl) ⟨Nat.zero_le _, Nat.zero_le _⟩ d_AR_hiLo_18 (fun H locs w => ?_)
  refine lv_lor hx hb d_AR_hiLo_21 ?_
  exact rt_l hc w d_AR_hiLo_22 (by rw [← e0, f_AR_hiLo] <;> rfl)
-- AR_putChecked
def f_AR_putChecked_c1 (z15 : XS × Int32) (a1 : Int32) (a2 : Int64)  : XS × Int32 := (z15.1, z15.2)
def f_AR_putChecked (σ : XS) (a1 : Int32) (a2 : Int64) : XS × Int32 := if (lg_cmp a2 (Int32.toInt64 (Int64.toInt32 a2))) = 0 then (f_AR_putChecked_c1 (f_CO_put σ a1 (Int64.toInt32 a2)) a1 a2 ) else ((σ, (12 : Int32)))
theorem d_AR_putChecked_0 : decode b_AR_putChecked 0 = .ok (.lload_n 2, 1) := by decide +kernel
theorem d_AR_putChecked_1 : decode b_AR_putChecked 1 = .ok (.lload_n 2, 1) := by decide +kernel
theorem d_AR_putChecked_2 : decode b_AR_putChecked 2 = .ok (.l2i, 1) := by decide +kernel
theorem d_AR_putChecked_3 : decode b_AR_putChecked 3 = .ok (.i2l, 1) := by decide +kernel
theorem d_AR_putChecked_4 : decode b_AR_putChecked 4 = .ok (.lcmp, 1) := by decide +kernel
theorem d_AR_putChecked_5 : decode b_AR_putChecked 5 = .ok (.ifCond .ne 16, 3) := by decide +kernel
theorem d_AR_putChecked_8 : decode b_AR_putChecked 8 = .ok (.aload_n 0, 1) := by decide +kernel
theorem d_AR_putChecked_9 : decode b_AR_putChecked 9 = .ok (.getfield 7, 3) := by decide +kernel
theorem d_AR_putChecked_12 : decode b_AR_putChecked 12 = .ok (.iload_n 1, 1) := by decide +kernel
theorem d_AR_putChecked_13 : decode b_AR_putChecked 13 = .ok (.lload_n 2, 1) := by decide +kernel
theorem d_AR_putChecked_14 : decode b_AR_putChecked 14 = .ok (.l2i, 1) := by decide +kernel
theorem d_AR_putChecked_15 : decode b_AR_putChecked 15 = .ok (.invokevirtual 53, 3) := by decide +kernel
theorem d_AR_putChecked_18 : decode b_AR_putChecked 18 = .ok (.goto 5, 3) := by decide +kernel
theorem d_AR_putChecked_21 : decode b_AR_putChecked 21 = .ok (.bipush 12, 2) := by decide +kernel
theorem d_AR_putChecked_23 : decode b_AR_putChecked 23 = .ok (.ireturn, 1) := by decide +kernel
set_option maxHeartbeats 4000000 in
set_option maxRecDepth 100000 in
theorem c_AR_putChecked (l : Launch) (E : Ev) (ad : Nat → Nat) (σ : XS) (a1 : Int32) (a2 : Int64) : rC xCl l E (xW E ad) y_AR_putChecked b_AR_putChecked 4 (Option.some Jvm.ClassFile.FieldType.int) (rmo 1 22) [.ref (ad 7), .int a1, .long a2] σ (zI (f_AR_putChecked σ a1 a2)) := by
  refine rC.of (by decide) (Nat.le_of_ble_eq_true rfl) ?_
  intro p e s m below meth c A ls hc w hl
  generalize e0 : zI (f_AR_putChecked σ a1 a2) = Z
  have hc : Cx xCl E A p s m ([.ref (ad 7), .int a1, .long a2] : List Value).toArray meth c b_AR_putChecked 4 (Option.some Jvm.ClassFile.FieldType.int) "PageMachine$Arithmetic" := hc
  have hx := hc.1
  have hb := hc.2.1
  have ho := hc.2.2.2.2.2.1
  have hT := hc.2.2.2.2.2.2.1
  have hl : lv_has ls 4 [(0, .ref (ad 7)), (1, .int a1), (2, .long a2)] := hl
  refine lv_lload_n hx hb d_AR_putChecked_0 rfl (lv_at hl 2 rfl) ?_
  refine lv_lload_n hx hb d_AR_putChecked_1 rfl (lv_at hl 2 rfl) ?_
  refine lv_l2i hx hb d_AR_putChecked_2 rfl ?_
  refine lv_i2l hx hb d_AR_putChecked_3 rfl ?_
  refine W.lcmp hx hb d_AR_putChecked_4 ?_
  refine lv_if_ne (tgt := 21) hx hb d_AR_putChecked_5 (by decide) (fun q5 => ?_) (fun q5 => ?_)
  · refine lv_bipush (v := 12) hx hb d_AR_putChecked_21 (by decide) ?_
    exact rt_i hc w d_AR_putChecked_23 (by rw [← e0, f_AR_putChecked, if_neg q5] <;> rfl)
  · refine lv_aload_n hx hb d_AR_putChecked_8 rfl (lv_at hl 0 rfl) ?_
    refine g_AR_core hc w mw_161 d_AR_putChecked_9 ?_
    refine lv_iload_n hx hb d_AR_putChecked_12 rfl (lv_at hl 1 rfl) ?_
    refine lv_lload_n hx hb d_AR_putChecked_13 rfl (lv_at hl 2 rfl) ?_
    refine lv_l2i hx hb d_AR_putChecked_14 rfl ?_
    refine cVI (rest := []) hc w (c_CO_put l E ad σ a1 (Int64.toInt32 a2)) kv_CO_put mw_583 5 rfl rfl ⟨Nat.le_of_ble_eq_true rfl, Nat.le_of_ble_eq_true rfl⟩ hl.1 rfl (Nat.le_of_ble_eq_true rfl) ⟨Nat.zero_le _, Nat.zero_le _⟩ d_AR_putChecked_15 (fun z15 H locs hs15 w => ?_)
    have e_c1 : zI (f_AR_putChecked_c1 z15 a1 a2 ) = Z := by rw [← e0, f_AR_putChecked, if_pos q5, hs15]
    refine lv_goto (tgt := 23) hx hb d_AR_putChecked_18 (by decide) ?_
    exact rt_i hc w d_AR_putChecked_23 (by rw [← e_c1, f_AR_putChecked_c1] <;> rfl)
-- AR_divide
def f_AR_divide_c2 (σ25 : XS) (a1 : Int64) (a2 : Int64)  : XS × Int32 := (σ25, (-1 : Int32))
def f_AR_divide_c1 (σ14 : XS) (a1 : Int64) (a2 : Int64)  : XS × Int32 := f_AR_divide_c2 (xs_hi σ14 (Int64.toInt32 (a1 - a1 / a2 * a2))) a1 a2 
def f_AR_divide (σ : XS) (a1 : Int64) (a2 : Int64) : XS × Int32 := if (lg_cmp a2 (0 : Int64)) = 0 then ((σ, (-1 : Int32))) else (f_AR_divide_c1 (xs_lo σ (Int64.toInt32 (a1 / a2))) a1 a2 )
theorem d_AR_divide_0 : decode b_AR_divide 0 = .ok (.lload_n 3, 1) := by decide +kernel
theorem d_AR_divide_1 : decode b_AR_divide 1 = .ok (.lconst 0, 1) := by decide +kernel
theorem d_AR_divide_2 : decode b_AR_divide 2 = .ok (.lcmp, 1) := by decide +kernel
theorem d_AR_divide_3 : decode b_AR_divide 3 = .ok (.ifCond .eq 25, 3) := by decide +kernel
theorem d_AR_divide_6 : decode b_AR_divide 6 = .ok (.aload_n 0, 1) := by decide +kernel
theorem d_AR_divide_7 : decode b_AR_divide 7 = .ok (.getfield 7, 3) := by decide +kernel
theorem d_AR_divide_10 : decode b_AR_divide 10 = .ok (.lload_n 1, 1) := by decide +kernel
theorem d_AR_divide_11 : decode b_AR_divide 11 = .ok (.lload_n 3, 1) := by decide +kernel
theorem d_AR_divide_12 : decode b_AR_divide 12 = .ok (.ldiv, 1) := by decide +kernel
theorem d_AR_divide_13 : decode b_AR_divide 13 = .ok (.l2i, 1) := by decide +kernel
theorem d_AR_divide_14 : decode b_AR_divide 14 = .ok (.putfield 63, 3) := by decide +kernel
theorem d_AR_divide_17 : decode b_AR_divide 17 = .ok (.aload_n 0, 1) := by decide +kernel
theorem d_AR_divide_18 : decode b_AR_divide 18 = .ok (.getfield 7, 3) := by decide +kernel
theorem d_AR_divide_21 : decode b_AR_divide 21 = .ok (.lload_n 1, 1) := by decide +kernel
theorem d_AR_divide_22 : decode b_AR_divide 22 = .ok (.lload_n 3, 1) := by decide +kernel
theorem d_AR_divide_23 : decode b_AR_divide 23 = .ok (.lrem, 1) := by decide +kernel
theorem d_AR_divide_24 : decode b_AR_divide 24 = .ok (.l2i, 1) := by decide +kernel
theorem d_AR_divide_25 : decode b_AR_divide 25 = .ok (.putfield 59, 3) := by decide +kernel
theorem d_AR_divide_28 : decode b_AR_divide 28 = .ok (.iconst (-1), 1) := by decide +kernel
theorem d_AR_divide_29 : decode b_AR_divide 29 = .ok (.ireturn, 1) := by decide +kernel
set_option maxHeartbeats 4000000 in
set_option maxRecDepth 100000 in
theorem c_AR_divide (l : Launch) (E : Ev) (ad : Nat → Nat) (σ : XS) (a1 : Int64) (a2 : Int64) : rC xCl l E (xW E ad) y_AR_divide b_AR_divide 5 (Option.some Jvm.ClassFile.FieldType.int) (rmo 0 0) [.ref (ad 7), .long a1, .long a2] σ (zI (f_AR_divide σ a1 a2)) := by
  refine rC.of (by decide) (Nat.le_of_ble_eq_true rfl) ?_
  intro p e s m below meth c A ls hc w hl
  generalize e0 : zI (f_AR_divide σ a1 a2) = Z
  have hc : Cx xCl E A p s m ([.ref (ad 7), .long a1, .long a2] : List Value).toArray meth c b_AR_divide 5 (Option.some Jvm.ClassFile.FieldType.int) "PageMachine$Arithmetic" := hc
  have hx := hc.1
  have hb := hc.2.1
  have ho := hc.2.2.2.2.2.1
  have hT := hc.2.2.2.2.2.2.1
  have hl : lv_has ls 5 [(0, .ref (ad 7)), (1, .long a1), (3, .long a2)] := hl
  refine lv_lload_n hx hb d_AR_divide_0 rfl (lv_at hl 2 rfl) ?_
  refine lv_lconst (v := 0) hx hb d_AR_divide_1 (by decide) ?_
  refine W.lcmp hx hb d_AR_divide_2 ?_
  refine lv_if_eq (tgt := 28) hx hb d_AR_divide_3 (by decide) (fun q3 => ?_) (fun q3 => ?_)
  · refine lv_iconst (v := -1) hx hb d_AR_divide_28 (by decide) ?_
    exact rt_i hc w d_AR_divide_29 (by rw [← e0, f_AR_divide, if_pos q3] <;> rfl)
  · refine lv_aload_n hx hb d_AR_divide_6 rfl (lv_at hl 0 rfl) ?_
    refine g_AR_core hc w mw_161 d_AR_divide_7 ?_
    refine lv_lload_n hx hb d_AR_divide_10 rfl (lv_at hl 1 rfl) ?_
    refine lv_lload_n hx hb d_AR_divide_11 rfl (lv_at hl 2 rfl) ?_
    refine lv_ldiv hx hb d_AR_divide_12 (fun h => q3 (by rw [h]; decide)) ?_
    refine lv_l2i hx hb d_AR_divide_13 rfl ?_
    refine p_CO_lo hc w mw_110 d_AR_divide_14 (fun σ14 H locs hs14 w => ?_)
    have e_c1 : zI (f_AR_divide_c1 σ14 a1 a2 ) = Z := by rw [← e0, f_AR_divide, if_neg q3, hs14]
    refine lv_aload_n hx hb d_AR_divide_17 rfl (lv_at hl 0 rfl) ?_
    refine g_AR_core hc w mw_161 d_AR_divide_18 ?_
    refine lv_lload_n hx hb d_AR_divide_21 rfl (lv_at hl 1 rfl) ?_
    refine lv_lload_n hx hb d_AR_divide_22 rfl (lv_at hl 2 rfl) ?_
    refine lv_lrem hx hb d_AR_divide_23 (fun h => q3 (by rw [h]; decide)) ?_
    refine lv_l2i hx hb d_AR_divide_24 rfl ?_
    refine p_CO_hi hc w mw_107 d_AR_divide_25 (fun σ25 H locs hs25 w => ?_)
    have e_c2 : zI (f_AR_divide_c2 σ25 a1 a2 ) = Z := by rw [← e_c1, f_AR_divide_c1, hs25]
    refine lv_iconst (v := -1) hx hb d_AR_divide_28 (by decide) ?_
    exact rt_i hc w d_AR_divide_29 (by rw [← e_c2, f_AR_divide_c2] <;> rfl)
-- AR_shift
def f_AR_shift_c6 (z177 : XS × Int32) (a1 : Int32)  : XS × Int32 := (z177.1, z177.2)
def f_AR_shift_c5 (z156 : XS × Int32) (a1 : Int32)  : XS × Int32 := (z156.1, z156.2)
def f_AR_shift_c4 (z135 : XS × Int32) (a1 : Int32)  : XS × Int32 := (z135.1, z135.2)
def f_AR_shift_c3 (z114 : XS × Int32) (a1 : Int32)  : XS × Int32 := (z114.1, z114.2)
def f_AR_shift_c2 (z96 : XS × Int32) (a1 : Int32)  : XS × Int32 := (z96.1, z96.2)
def f_AR_shift_c1 (z78 : XS × Int32) (a1 : Int32)  : XS × Int32 := (z78.1, z78.2)
def f_AR_shift (σ : XS) (a1 : Int32) : XS × Int32 := if a1 = (0 : Int32) then (f_AR_shift_c1 (f_CO_put σ (f_CO_rd σ) ((f_CO_t σ) <<< ((f_CO_sh σ) &&& 31))) a1 ) else (if a1 = (1 : Int32) then ((σ, (10 : Int32))) else (if a1 = (2 : Int32) then (f_AR_shift_c2 (f_CO_put σ (f_CO_rd σ) ((Int32.toUInt32 (f_CO_t σ) >>> (Int32.toUInt32 (f_CO_sh σ) &&& Int32.toUInt32 31)).toInt32)) a1 ) else (if a1 = (3 : Int32) then (f_AR_shift_c3 (f_CO_put σ (f_CO_rd σ) ((f_CO_t σ) >>> ((f_CO_sh σ) &&& 31))) a1 ) else (if a1 = (4 : Int32) then (f_AR_shift_c4 (f_CO_put σ (f_CO_rd σ) ((f_CO_t σ) <<< (((f_CO_s σ) &&& (31 : Int32)) &&& 31))) a1 ) else (if a1 = (5 : Int32) then ((σ, (10 : Int32))) else (if a1 = (6 : Int32) then (f_AR_shift_c5 (f_CO_put σ (f_CO_rd σ) ((Int32.toUInt32 (f_CO_t σ) >>> (Int32.toUInt32 ((f_CO_s σ) &&& (31 : Int32)) &&& Int32.toUInt32 31)).toInt32)) a1 ) else (if a1 = (7 : Int32) then (f_AR_shift_c6 (f_CO_put σ (f_CO_rd σ) ((f_CO_t σ) >>> (((f_CO_s σ) &&& (31 : Int32)) &&& 31))) a1 ) else ((σ, (10 : Int32))))))))))
theorem d_AR_shift_0 : decode b_AR_shift 0 = .ok (.aload_n 0, 1) := by decide +kernel
theorem d_AR_shift_1 : decode b_AR_shift 1 = .ok (.getfield 7, 3) := by decide +kernel
theorem d_AR_shift_4 : decode b_AR_shift 4 = .ok (.invokevirtual 38, 3) := by decide +kernel
theorem d_AR_shift_7 : decode b_AR_shift 7 = .ok (.istore_n 2, 1) := by decide +kernel
theorem d_AR_shift_8 : decode b_AR_shift 8 = .ok (.aload_n 0, 1) := by decide +kernel
theorem d_AR_shift_9 : decode b_AR_shift 9 = .ok (.getfield 7, 3) := by decide +kernel
theorem d_AR_shift_12 : decode b_AR_shift 12 = .ok (.invokevirtual 47, 3) := by decide +kernel
theorem d_AR_shift_15 : decode b_AR_shift 15 = .ok (.istore_n 3, 1) := by decide +kernel
theorem d_AR_shift_16 : decode b_AR_shift 16 = .ok (.iload_n 1, 1) := by decide +kernel
theorem d_AR_shift_17 : decode b_AR_shift 17 = .ok (.tableswitch 164 0 7 #[47, 164, 65, 83, 101, 164, 122, 143], 47) := by decide +kernel
theorem d_AR_shift_64 : decode b_AR_shift 64 = .ok (.aload_n 0, 1) := by decide +kernel
theorem d_AR_shift_65 : decode b_AR_shift 65 = .ok (.getfield 7, 3) := by decide +kernel
theorem d_AR_shift_68 : decode b_AR_shift 68 = .ok (.iload_n 3, 1) := by decide +kernel
theorem d_AR_shift_69 : decode b_AR_shift 69 = .ok (.iload_n 2, 1) := by decide +kernel
theorem d_AR_shift_70 : decode b_AR_shift 70 = .ok (.aload_n 0, 1) := by decide +kernel
theorem d_AR_shift_71 : decode b_AR_shift 71 = .ok (.getfield 7, 3) := by decide +kernel
theorem d_AR_shift_74 : decode b_AR_shift 74 = .ok (.invokevirtual 50, 3) := by decide +kernel
theorem d_AR_shift_77 : decode b_AR_shift 77 = .ok (.ishl, 1) := by decide +kernel
theorem d_AR_shift_78 : decode b_AR_shift 78 = .ok (.invokevirtual 53, 3) := by decide +kernel
theorem d_AR_shift_81 : decode b_AR_shift 81 = .ok (.ireturn, 1) := by decide +kernel
theorem d_AR_shift_82 : decode b_AR_shift 82 = .ok (.aload_n 0, 1) := by decide +kernel
theorem d_AR_shift_83 : decode b_AR_shift 83 = .ok (.getfield 7, 3) := by decide +kernel
theorem d_AR_shift_86 : decode b_AR_shift 86 = .ok (.iload_n 3, 1) := by decide +kernel
theorem d_AR_shift_87 : decode b_AR_shift 87 = .ok (.iload_n 2, 1) := by decide +kernel
theorem d_AR_shift_88 : decode b_AR_shift 88 = .ok (.aload_n 0, 1) := by decide +kernel
theorem d_AR_shift_89 : decode b_AR_shift 89 = .ok (.getfield 7, 3) := by decide +kernel
theorem d_AR_shift_92 : decode b_AR_shift 92 = .ok (.invokevirtual 50, 3) := by decide +kernel
theorem d_AR_shift_95 : decode b_AR_shift 95 = .ok (.iushr, 1) := by decide +kernel
theorem d_AR_shift_96 : decode b_AR_shift 96 = .ok (.invokevirtual 53, 3) := by decide +kernel
theorem d_AR_shift_99 : decode b_AR_shift 99 = .ok (.ireturn, 1) := by decide +kernel
theorem d_AR_shift_100 : decode b_AR_shift 100 = .ok (.aload_n 0, 1) := by decide +kernel
theorem d_AR_shift_101 : decode b_AR_shift 101 = .ok (.getfield 7, 3) := by decide +kernel
theorem d_AR_shift_104 : decode b_AR_shift 104 = .ok (.iload_n 3, 1) := by decide +kernel
theorem d_AR_shift_105 : decode b_AR_shift 105 = .ok (.iload_n 2, 1) := by decide +kernel
theorem d_AR_shift_106 : decode b_AR_shift 106 = .ok (.aload_n 0, 1) := by decide +kernel
theorem d_AR_shift_107 : decode b_AR_shift 107 = .ok (.getfield 7, 3) := by decide +kernel
theorem d_AR_shift_110 : decode b_AR_shift 110 = .ok (.invokevirtual 50, 3) := by decide +kernel
theorem d_AR_shift_113 : decode b_AR_shift 113 = .ok (.ishr, 1) := by decide +kernel
theorem d_AR_shift_114 : decode b_AR_shift 114 = .ok (.invokevirtual 53, 3) := by decide +kernel
theorem d_AR_shift_117 : decode b_AR_shift 117 = .ok (.ireturn, 1) := by decide +kernel
theorem d_AR_shift_118 : decode b_AR_shift 118 = .ok (.aload_n 0, 1) := by decide +kernel
theorem d_AR_shift_119 : decode b_AR_shift 119 = .ok (.getfield 7, 3) := by decide +kernel
theorem d_AR_shift_122 : decode b_AR_shift 122 = .ok (.iload_n 3, 1) := by decide +kernel
theorem d_AR_shift_123 : decode b_AR_shift 123 = .ok (.iload_n 2, 1) := by decide +kernel
theorem d_AR_shift_124 : decode b_AR_shift 124 = .ok (.aload_n 0, 1) := by decide +kernel
theorem d_AR_shift_125 : decode b_AR_shift 125 = .ok (.getfield 7, 3) := by decide +kernel
theorem d_AR_shift_128 : decode b_AR_shift 128 = .ok (.invokevirtual 56, 3) := by decide +kernel
theorem d_AR_shift_131 : decode b_AR_shift 131 = .ok (.bipush 31, 2) := by decide +kernel
theorem d_AR_shift_133 : decode b_AR_shift 133 = .ok (.iand, 1) := by decide +kernel
theorem d_AR_shift_134 : decode b_AR_shift 134 = .ok (.ishl, 1) := by decide +kernel
theorem d_AR_shift_135 : decode b_AR_shift 135 = .ok (.invokevirtual 53, 3) := by decide +kernel
theorem d_AR_shift_138 : decode b_AR_shift 138 = .ok (.ireturn, 1) := by decide +kernel
theorem d_AR_shift_139 : decode b_AR_shift 139 = .ok (.aload_n 0, 1) := by decide +kernel
theorem d_AR_shift_140 : decode b_AR_shift 140 = .ok (.getfield 7, 3) := by decide +kernel
theorem d_AR_shift_143 : decode b_AR_shift 143 = .ok (.iload_n 3, 1) := by decide +kernel
theorem d_AR_shift_144 : decode b_AR_shift 144 = .ok (.iload_n 2, 1) := by decide +kernel
theorem d_AR_shift_145 : decode b_AR_shift 145 = .ok (.aload_n 0, 1) := by decide +kernel
theorem d_AR_shift_146 : decode b_AR_shift 146 = .ok (.getfield 7, 3) := by decide +kernel
theorem d_AR_shift_149 : decode b_AR_shift 149 = .ok (.invokevirtual 56, 3) := by decide +kernel
theorem d_AR_shift_152 : decode b_AR_shift 152 = .ok (.bipush 31, 2) := by decide +kernel
theorem d_AR_shift_154 : decode b_AR_shift 154 = .ok (.iand, 1) := by decide +kernel
theorem d_AR_shift_155 : decode b_AR_shift 155 = .ok (.iushr, 1) := by decide +kernel
theorem d_AR_shift_156 : decode b_AR_shift 156 = .ok (.invokevirtual 53, 3) := by decide +kernel
theorem d_AR_shift_159 : decode b_AR_shift 159 = .ok (.ireturn, 1) := by decide +kernel
theorem d_AR_shift_160 : decode b_AR_shift 160 = .ok (.aload_n 0, 1) := by decide +kernel
theorem d_AR_shift_161 : decode b_AR_shift 161 = .ok (.getfield 7, 3) := by decide +kernel
theorem d_AR_shift_164 : decode b_AR_shift 164 = .ok (.iload_n 3, 1) := by decide +kernel
theorem d_AR_shift_165 : decode b_AR_shift 165 = .ok (.iload_n 2, 1) := by decide +kernel
theorem d_AR_shift_166 : decode b_AR_shift 166 = .ok (.aload_n 0, 1) := by decide +kernel
theorem d_AR_shift_167 : decode b_AR_shift 167 = .ok (.getfield 7, 3) := by decide +kernel
theorem d_AR_shift_170 : decode b_AR_shift 170 = .ok (.invokevirtual 56, 3) := by decide +kernel
theorem d_AR_shift_173 : decode b_AR_shift 173 = .ok (.bipush 31, 2) := by decide +kernel
theorem d_AR_shift_175 : decode b_AR_shift 175 = .ok (.iand, 1) := by decide +kernel
theorem d_AR_shift_176 : decode b_AR_shift 176 = .ok (.ishr, 1) := by decide +kernel
theorem d_AR_shift_177 : decode b_AR_shift 177 = .ok (.invokevirtual 53, 3) := by decide +kernel
theorem d_AR_shift_180 : decode b_AR_shift 180 = .ok (.ireturn, 1) := by decide +kernel
theorem d_AR_shift_181 : decode b_AR_shift 181 = .ok (.bipush 10, 2) := by decide +kernel
theorem d_AR_shift_183 : decode b_AR_shift 183 = .ok (.ireturn, 1) := by decide +kernel
set_option maxHeartbeats 4000000 in
set_option maxRecDepth 100000 in
theorem c_AR_shift (l : Launch) (E : Ev) (ad : Nat → Nat) (σ : XS) (a1 : Int32) : rC xCl l E (xW E ad) y_AR_shift b_AR_shift 4 (Option.some Jvm.ClassFile.FieldType.int) (rmo 1 22) [.ref (ad 7), .int a1] σ (zI (f_AR_shift σ a1)) := by
  refine rC.of (by decide) (Nat.le_of_ble_eq_true rfl) ?_
  intro p e s m below meth c A ls hc w hl
  generalize e0 : zI (f_AR_shift σ a1) = Z
  have hc : Cx xCl E A p s m ([.ref (ad 7), .int a1] : List Value).toArray meth c b_AR_shift 4 (Option.some Jvm.ClassFile.FieldType.int) "PageMachine$Arithmetic" := hc
  have hx := hc.1
  have hb := hc.2.1
  have ho := hc.2.2.2.2.2.1
  have hT := hc.2.2.2.2.2.2.1
  have hl : lv_has ls 4 [(0, .ref (ad 7)), (1, .int a1)] := hl
  refine lv_aload_n hx hb d_AR_shift_0 rfl (lv_at hl 0 rfl) ?_
  refine g_AR_core hc w mw_161 d_AR_shift_1 ?_
  refine rVI (rest := []) hc w (c_CO_t l E ad σ) kv_CO_t mw_574 5 rfl rfl ⟨Nat.le_of_ble_eq_true rfl, Nat.le_of_ble_eq_true rfl⟩ hl.1 rfl (Nat.le_of_ble_eq_true rfl) ⟨Nat.zero_le _, Nat.zero_le _⟩ d_AR_shift_4 (fun H locs w => ?_)
  refine lv_istore_n (lv' := [(2, .int (f_CO_t σ)), (0, .ref (ad 7)), (1, .int a1)]) hx hb d_AR_shift_7 rfl hl (by decide) rfl (fun ls hl => ?_)
  refine lv_aload_n hx hb d_AR_shift_8 rfl (lv_at hl 1 rfl) ?_
  refine g_AR_core hc w mw_161 d_AR_shift_9 ?_
  refine rVI (rest := []) hc w (c_CO_rd l E ad σ) kv_CO_rd mw_578 5 rfl rfl ⟨Nat.le_of_ble_eq_true rfl, Nat.le_of_ble_eq_true rfl⟩ hl.1 rfl (Nat.le_of_ble_eq_true rfl) ⟨Nat.zero_le _, Nat.zero_le _⟩ d_AR_shift_12 (fun H locs w => ?_)
  refine lv_istore_n (lv' := [(3, .int (f_CO_rd σ)), (2, .int (f_CO_t σ)), (0, .ref (ad 7)), (1, .int a1)]) hx hb d_AR_shift_15 rfl hl (by decide) rfl (fun ls hl => ?_)
  refine lv_iload_n hx hb d_AR_shift_16 rfl (lv_at hl 3 rfl) ?_
  by_cases q17_0 : a1 = (0 : Int32)
  · refine lv_tableIn (tgt := 64) (off := 47) hx hb d_AR_shift_17 (by rw [q17_0]; decide) (by rw [q17_0]; decide) (by rw [q17_0]; rfl) (by decide) ?_
    refine lv_aload_n hx hb d_AR_shift_64 rfl (lv_at hl 2 rfl) ?_
    refine g_AR_core hc w mw_161 d_AR_shift_65 ?_
    refine lv_iload_n hx hb d_AR_shift_68 rfl (lv_at hl 0 rfl) ?_
    refine lv_iload_n hx hb d_AR_shift_69 rfl (lv_at hl 1 rfl) ?_
    refine lv_aload_n hx hb d_AR_shift_70 rfl (lv_at hl 2 rfl) ?_
    refine g_AR_core hc w mw_161 d_AR_shift_71 ?_
    refine rVI (rest := [.int (f_CO_t σ), .int (f_CO_rd σ), .ref (ad 5)]) hc w (c_CO_sh l E ad σ) kv_CO_sh mw_579 5 rfl rfl ⟨Nat.le_of_ble_eq_true rfl, Nat.le_of_ble_eq_true rfl⟩ hl.1 rfl (Nat.le_of_ble_eq_true rfl) ⟨Nat.zero_le _, Nat.zero_le _⟩ d_AR_shift_74 (fun H locs w => ?_)
    refine lv_ishl hx hb d_AR_shift_77 ?_
    refine cVI (rest := []) hc w (c_CO_put l E ad σ (f_CO_rd σ) ((f_CO_t σ) <<< ((f_CO_sh σ) &&& 31))) kv_CO_put mw_583 5 rfl rfl ⟨Nat.le_of_ble_eq_true rfl, Nat.le_of_ble_eq_true rfl⟩ hl.1 rfl (Nat.le_of_ble_eq_true rfl) ⟨Nat.zero_le _, Nat.zero_le _⟩ d_AR_shift_78 (fun z78 H locs hs78 w => ?_)
    have e_c1 : zI (f_AR_shift_c1 z78 a1 ) = Z := by rw [← e0, f_AR_shift, if_pos q17_0, hs78]
    exact rt_i hc w d_AR_shift_81 (by rw [← e_c1, f_AR_shift_c1] <;> rfl)
  · by_cases q17_1 : a1 = (1 : Int32)
    · refine lv_tableIn (tgt := 181) (off := 164) hx hb d_AR_shift_17 (by rw [q17_1]; decide) (by rw [q17_1]; decide) (by rw [q17_1]; rfl) (by decide) ?_
      refine lv_bipush (v := 10) hx hb d_AR_shift_181 (by decide) ?_
      exact rt_i hc w d_AR_shift_183 (by rw [← e0, f_AR_shift, if_neg q17_0, if_pos q17_1] <;> rfl)
    · by_cases q17_2 : a1 = (2 : Int32)
      · refine lv_tableIn (tgt := 82) (off := 65) hx hb d_AR_shift_17 (by rw [q17_2]; decide) (by rw [q17_2]; decide) (by rw [q17_2]; rfl) (by decide) ?_
        refine lv_aload_n hx hb d_AR_shift_82 rfl (lv_at hl 2 rfl) ?_
        refine g_AR_core hc w mw_161 d_AR_shift_83 ?_
        refine lv_iload_n hx hb d_AR_shift_86 rfl (lv_at hl 0 rfl) ?_
        refine lv_iload_n hx hb d_AR_shift_87 rfl (lv_at hl 1 rfl) ?_
        refine lv_aload_n hx hb d_AR_shift_88 rfl (lv_at hl 2 rfl) ?_
        refine g_AR_core hc w mw_161 d_AR_shift_89 ?_
        refine rVI (rest := [.int (f_CO_t σ), .int (f_CO_rd σ), .ref (ad 5)]) hc w (c_CO_sh l E ad σ) kv_CO_sh mw_579 5 rfl rfl ⟨Nat.le_of_ble_eq_true rfl, Nat.le_of_ble_eq_true rfl⟩ hl.1 rfl (Nat.le_of_ble_eq_true rfl) ⟨Nat.zero_le _, Nat.zero_le _⟩ d_AR_shift_92 (fun H locs w => ?_)
        refine lv_iushr hx hb d_AR_shift_95 rfl ?_
        refine cVI (rest := []) hc w (c_CO_put l E ad σ (f_CO_rd σ) ((Int32.toUInt32 (f_CO_t σ) >>> (Int32.toUInt32 (f_CO_sh σ) &&& Int32.toUInt32 31)).toInt32)) kv_CO_put mw_583 5 rfl rfl ⟨Nat.le_of_ble_eq_true rfl, Nat.le_of_ble_eq_true rfl⟩ hl.1 rfl (Nat.le_of_ble_eq_true rfl) ⟨Nat.zero_le _, Nat.zero_le _⟩ d_AR_shift_96 (fun z96 H locs hs96 w => ?_)
        have e_c2 : zI (f_AR_shift_c2 z96 a1 ) = Z := by rw [← e0, f_AR_shift, if_neg q17_0, if_neg q17_1, if_pos q17_2, hs96]
        exact rt_i hc w d_AR_shift_99 (by rw [← e_c2, f_AR_shift_c2] <;> rfl)
      · by_cases q17_3 : a1 = (3 : Int32)
        · refine lv_tableIn (tgt := 100) (off := 83) hx hb d_AR_shift_17 (by rw [q17_3]; decide) (by rw [q17_3]; decide) (by rw [q17_3]; rfl) (by decide) ?_
          refine lv_aload_n hx hb d_AR_shift_100 rfl (lv_at hl 2 rfl) ?_
          refine g_AR_core hc w mw_161 d_AR_shift_101 ?_
          refine lv_iload_n hx hb d_AR_shift_104 rfl (lv_at hl 0 rfl) ?_
          refine lv_iload_n hx hb d_AR_shift_105 rfl (lv_at hl 1 rfl) ?_
          refine lv_aload_n hx hb d_AR_shift_106 rfl (lv_at hl 2 rfl) ?_
          refine g_AR_core hc w mw_161 d_AR_shift_107 ?_
          refine rVI (rest := [.int (f_CO_t σ), .int (f_CO_rd σ), .ref (ad 5)]) hc w (c_CO_sh l E ad σ) kv_CO_sh mw_579 5 rfl rfl ⟨Nat.le_of_ble_eq_true rfl, Nat.le_of_ble_eq_true rfl⟩ hl.1 rfl (Nat.le_of_ble_eq_true rfl) ⟨Nat.zero_le _, Nat.zero_le _⟩ d_AR_shift_110 (fun H locs w => ?_)
          refine lv_ishr hx hb d_AR_shift_113 ?_
          refine cVI (rest := []) hc w (c_CO_put l E ad σ (f_CO_rd σ) ((f_CO_t σ) >>> ((f_CO_sh σ) &&& 31))) kv_CO_put mw_583 5 rfl rfl ⟨Nat.le_of_ble_eq_true rfl, Nat.le_of_ble_eq_true rfl⟩ hl.1 rfl (Nat.le_of_ble_eq_true rfl) ⟨Nat.zero_le _, Nat.zero_le _⟩ d_AR_shift_114 (fun z114 H locs hs114 w => ?_)
          have e_c3 : zI (f_AR_shift_c3 z114 a1 ) = Z := by rw [← e0, f_AR_shift, if_neg q17_0, if_neg q17_1, if_neg q17_2, if_pos q17_3, hs114]
          exact rt_i hc w d_AR_shift_117 (by rw [← e_c3, f_AR_shift_c3] <;> rfl)
        · by_cases q17_4 : a1 = (4 : Int32)
          · refine lv_tableIn (tgt := 118) (off := 101) hx hb d_AR_shift_17 (by rw [q17_4]; decide) (by rw [q17_4]; decide) (by rw [q17_4]; rfl) (by decide) ?_
            refine lv_aload_n hx hb d_AR_shift_118 rfl (lv_at hl 2 rfl) ?_
            refine g_AR_core hc w mw_161 d_AR_shift_119 ?_
            refine lv_iload_n hx hb d_AR_shift_122 rfl (lv_at hl 0 rfl) ?_
            refine lv_iload_n hx hb d_AR_shift_123 rfl (lv_at hl 1 rfl) ?_
            refine lv_aload_n hx hb d_AR_shift_124 rfl (lv_at hl 2 rfl) ?_
            refine g_AR_core hc w mw_161 d_AR_shift_125 ?_
            refine rVI (rest := [.int (f_CO_t σ), .int (f_CO_rd σ), .ref (ad 5)]) hc w (c_CO_s l E ad σ) kv_CO_s mw_584 5 rfl rfl ⟨Nat.le_of_ble_eq_true rfl, Nat.le_of_ble_eq_true rfl⟩ hl.1 rfl (Nat.le_of_ble_eq_true rfl) ⟨Nat.zero_le _, Nat.zero_le _⟩ d_AR_shift_128 (fun H locs w => ?_)
            refine lv_bipush (v := 31) hx hb d_AR_shift_131 (by decide) ?_
            refine lv_iand hx hb d_AR_shift_133 ?_
            refine lv_ishl hx hb d_AR_shift_134 ?_
            refine cVI (rest := []) hc w (c_CO_put l E ad σ (f_CO_rd σ) ((f_CO_t σ) <<< (((f_CO_s σ) &&& (31 : Int32)) &&& 31))) kv_CO_put mw_583 5 rfl rfl ⟨Nat.le_of_ble_eq_true rfl, Nat.le_of_ble_eq_true rfl⟩ hl.1 rfl (Nat.le_of_ble_eq_true rfl) ⟨Nat.zero_le _, Nat.zero_le _⟩ d_AR_shift_135 (fun z135 H locs hs135 w => ?_)
            have e_c4 : zI (f_AR_shift_c4 z135 a1 ) = Z := by rw [← e0, f_AR_shift, if_neg q17_0, if_neg q17_1, if_neg q17_2, if_neg q17_3, if_pos q17_4, hs135]
            exact rt_i hc w d_AR_shift_138 (by rw [← e_c4, f_AR_shift_c4] <;> rfl)
          · by_cases q17_5 : a1 = (5 : Int32)
            · refine lv_tableIn (tgt := 181) (off := 164) hx hb d_AR_shift_17 (by rw [q17_5]; decide) (by rw [q17_5]; decide) (by rw [q17_5]; rfl) (by decide) ?_
              refine lv_bipush (v := 10) hx hb d_AR_shift_181 (by decide) ?_
              exact rt_i hc w d_AR_shift_183 (by rw [← e0, f_AR_shift, if_neg q17_0, if_neg q17_1, if_neg q17_2, if_neg q17_3, if_neg q17_4, if_pos q17_5] <;> rfl)
            · by_cases q17_6 : a1 = (6 : Int32)
              · refine lv_tableIn (tgt := 139) (off := 122) hx hb d_AR_shift_17 (by rw [q17_6]; decide) (by rw [q17_6]; decide) (by rw [q17_6]; rfl) (by decide) ?_
                refine lv_aload_n hx hb d_AR_shift_139 rfl (lv_at hl 2 rfl) ?_
                refine g_AR_core hc w mw_161 d_AR_shift_140 ?_
                refine lv_iload_n hx hb d_AR_shift_143 rfl (lv_at hl 0 rfl) ?_
                refine lv_iload_n hx hb d_AR_shift_144 rfl (lv_at hl 1 rfl) ?_
                refine lv_aload_n hx hb d_AR_shift_145 rfl (lv_at hl 2 rfl) ?_
                refine g_AR_core hc w mw_161 d_AR_shift_146 ?_
                refine rVI (rest := [.int (f_CO_t σ), .int (f_CO_rd σ), .ref (ad 5)]) hc w (c_CO_s l E ad σ) kv_CO_s mw_584 5 rfl rfl ⟨Nat.le_of_ble_eq_true rfl, Nat.le_of_ble_eq_true rfl⟩ hl.1 rfl (Nat.le_of_ble_eq_true rfl) ⟨Nat.zero_le _, Nat.zero_le _⟩ d_AR_shift_149 (fun H locs w => ?_)
                refine lv_bipush (v := 31) hx hb d_AR_shift_152 (by decide) ?_
                refine lv_iand hx hb d_AR_shift_154 ?_
                refine lv_iushr hx hb d_AR_shift_155 rfl ?_
                refine cVI (rest := []) hc w (c_CO_put l E ad σ (f_CO_rd σ) ((Int32.toUInt32 (f_CO_t σ) >>> (Int32.toUInt32 ((f_CO_s σ) &&& (31 : Int32)) &&& Int32.toUInt32 31)).toInt32)) kv_CO_put mw_583 5 rfl rfl ⟨Nat.le_of_ble_eq_true rfl, Nat.le_of_ble_eq_true rfl⟩ hl.1 rfl (Nat.le_of_ble_eq_true rfl) ⟨Nat.zero_le _, Nat.zero_le _⟩ d_AR_shift_156 (fun z156 H locs hs156 w => ?_)
                have e_c5 : zI (f_AR_shift_c5 z156 a1 ) = Z := by rw [← e0, f_AR_shift, if_neg q17_0, if_neg q17_1, if_neg q17_2, if_neg q17_3, if_neg q17_4, if_neg q17_5, if_pos q17_6, hs156]
                exact rt_i hc w d_AR_shift_159 (by rw [← e_c5, f_AR_shift_c5] <;> rfl)
              · by_cases q17_7 : a1 = (7 : Int32)
                · refine lv_tableIn (tgt := 160) (off := 143) hx hb d_AR_shift_17 (by rw [q17_7]; decide) (by rw [q17_7]; decide) (by rw [q17_7]; rfl) (by decide) ?_
                  refine lv_aload_n hx hb d_AR_shift_160 rfl (lv_at hl 2 rfl) ?_
                  refine g_AR_core hc w mw_161 d_AR_shift_161 ?_
                  refine lv_iload_n hx hb d_AR_shift_164 rfl (lv_at hl 0 rfl) ?_
                  refine lv_iload_n hx hb d_AR_shift_165 rfl (lv_at hl 1 rfl) ?_
                  refine lv_aload_n hx hb d_AR_shift_166 rfl (lv_at hl 2 rfl) ?_
                  refine g_AR_core hc w mw_161 d_AR_shift_167 ?_
                  refine rVI (rest := [.int (f_CO_t σ), .int (f_CO_rd σ), .ref (ad 5)]) hc w (c_CO_s l E ad σ) kv_CO_s mw_584 5 rfl rfl ⟨Nat.le_of_ble_eq_true rfl, Nat.le_of_ble_eq_true rfl⟩ hl.1 rfl (Nat.le_of_ble_eq_true rfl) ⟨Nat.zero_le _, Nat.zero_le _⟩ d_AR_shift_170 (fun H locs w => ?_)
                  refine lv_bipush (v := 31) hx hb d_AR_shift_173 (by decide) ?_
                  refine lv_iand hx hb d_AR_shift_175 ?_
                  refine lv_ishr hx hb d_AR_shift_176 ?_
                  refine cVI (rest := []) hc w (c_CO_put l E ad σ (f_CO_rd σ) ((f_CO_t σ) >>> (((f_CO_s σ) &&& (31 : Int32)) &&& 31))) kv_CO_put mw_583 5 rfl rfl ⟨Nat.le_of_ble_eq_true rfl, Nat.le_of_ble_eq_true rfl⟩ hl.1 rfl (Nat.le_of_ble_eq_true rfl) ⟨Nat.zero_le _, Nat.zero_le _⟩ d_AR_shift_177 (fun z177 H locs hs177 w => ?_)
                  have e_c6 : zI (f_AR_shift_c6 z177 a1 ) = Z := by rw [← e0, f_AR_shift, if_neg q17_0, if_neg q17_1, if_neg q17_2, if_neg q17_3, if_neg q17_4, if_neg q17_5, if_neg q17_6, if_pos q17_7, hs177]
                  exact rt_i hc w d_AR_shift_180 (by rw [← e_c6, f_AR_shift_c6] <;> rfl)
                · refine lv_tableOut (tgt := 181) hx hb d_AR_shift_17 (by have k0 := ne_k q17_0 (n := 0) (by decide); have k1 := ne_k q17_1 (n := 1) (by decide); have k2 := ne_k q17_2 (n := 2) (by decide); have k3 := ne_k q17_3 (n := 3) (by decide); have k4 := ne_k q17_4 (n := 4) (by decide); have k5 := ne_k q17_5 (n := 5) (by decide); have k6 := ne_k q17_6 (n := 6) (by decide); have k7 := ne_k q17_7 (n := 7) (by decide); omega) (by decide) ?_
                  refine lv_bipush (v := 10) hx hb d_AR_shift_181 (by decide) ?_
                  exact rt_i hc w d_AR_shift_183 (by rw [← e0, f_AR_shift, if_neg q17_0, if_neg q17_1, if_neg q17_2, if_neg q17_3, if_neg q17_4, if_neg q17_5, if_neg q17_6, if_neg q17_7] <;> rfl)
-- AR_moveOrCall
def f_AR_moveOrCall_c2 (z104 : XS × Int32) (a1 : Int32)  : XS × Int32 := (z104.1, z104.2)
def f_AR_moveOrCall_c1 (z68 : XS × Int32) (a1 : Int32)  : XS × Int32 := (z68.1, z68.2)
def f_AR_moveOrCall (σ : XS) (a1 : Int32) : XS × Int32 := if a1 = (10 : Int32) then (if (f_CO_t σ) = 0 then (f_AR_moveOrCall_c1 (f_CO_put σ (f_CO_rd σ) (f_CO_s σ)) a1 ) else ((σ, (-1 : Int32)))) else (if a1 = (11 : Int32) then (if (f_CO_t σ) = 0 then ((σ, (-1 : Int32))) else (f_AR_moveOrCall_c2 (f_CO_put σ (f_CO_rd σ) (f_CO_s σ)) a1 )) else (if a1 = (12 : Int32) then ((σ, (8 : Int32))) else (if a1 = (13 : Int32) then ((σ, (9 : Int32))) else (if a1 = (14 : Int32) then ((σ, (10 : Int32))) else (if a1 = (15 : Int32) then ((σ, (-1 : Int32))) else ((σ, (10 : Int32))))))))
theorem d_AR_moveOrCall_0 : decode b_AR_moveOrCall 0 = .ok (.iload_n 1, 1) := by decide +kernel
theorem d_AR_moveOrCall_1 : decode b_AR_moveOrCall 1 = .ok (.tableswitch 119 10 15 #[39, 75, 111, 114, 119, 117], 39) := by decide +kernel
theorem d_AR_moveOrCall_40 : decode b_AR_moveOrCall 40 = .ok (.aload_n 0, 1) := by decide +kernel
theorem d_AR_moveOrCall_41 : decode b_AR_moveOrCall 41 = .ok (.getfield 7, 3) := by decide +kernel
theorem d_AR_moveOrCall_44 : decode b_AR_moveOrCall 44 = .ok (.invokevirtual 38, 3) := by decide +kernel
theorem d_AR_moveOrCall_47 : decode b_AR_moveOrCall 47 = .ok (.ifCond .ne 27, 3) := by decide +kernel
theorem d_AR_moveOrCall_50 : decode b_AR_moveOrCall 50 = .ok (.aload_n 0, 1) := by decide +kernel
theorem d_AR_moveOrCall_51 : decode b_AR_moveOrCall 51 = .ok (.getfield 7, 3) := by decide +kernel
theorem d_AR_moveOrCall_54 : decode b_AR_moveOrCall 54 = .ok (.aload_n 0, 1) := by decide +kernel
theorem d_AR_moveOrCall_55 : decode b_AR_moveOrCall 55 = .ok (.getfield 7, 3) := by decide +kernel
theorem d_AR_moveOrCall_58 : decode b_AR_moveOrCall 58 = .ok (.invokevirtual 47, 3) := by decide +kernel
theorem d_AR_moveOrCall_61 : decode b_AR_moveOrCall 61 = .ok (.aload_n 0, 1) := by decide +kernel
theorem d_AR_moveOrCall_62 : decode b_AR_moveOrCall 62 = .ok (.getfield 7, 3) := by decide +kernel
theorem d_AR_moveOrCall_65 : decode b_AR_moveOrCall 65 = .ok (.invokevirtual 56, 3) := by decide +kernel
theorem d_AR_moveOrCall_68 : decode b_AR_moveOrCall 68 = .ok (.invokevirtual 53, 3) := by decide +kernel
theorem d_AR_moveOrCall_71 : decode b_AR_moveOrCall 71 = .ok (.goto 4, 3) := by decide +kernel
theorem d_AR_moveOrCall_74 : decode b_AR_moveOrCall 74 = .ok (.iconst (-1), 1) := by decide +kernel
theorem d_AR_moveOrCall_75 : decode b_AR_moveOrCall 75 = .ok (.ireturn, 1) := by decide +kernel
theorem d_AR_moveOrCall_76 : decode b_AR_moveOrCall 76 = .ok (.aload_n 0, 1) := by decide +kernel
theorem d_AR_moveOrCall_77 : decode b_AR_moveOrCall 77 = .ok (.getfield 7, 3) := by decide +kernel
theorem d_AR_moveOrCall_80 : decode b_AR_moveOrCall 80 = .ok (.invokevirtual 38, 3) := by decide +kernel
theorem d_AR_moveOrCall_83 : decode b_AR_moveOrCall 83 = .ok (.ifCond .eq 27, 3) := by decide +kernel
theorem d_AR_moveOrCall_86 : decode b_AR_moveOrCall 86 = .ok (.aload_n 0, 1) := by decide +kernel
theorem d_AR_moveOrCall_87 : decode b_AR_moveOrCall 87 = .ok (.getfield 7, 3) := by decide +kernel
theorem d_AR_moveOrCall_90 : decode b_AR_moveOrCall 90 = .ok (.aload_n 0, 1) := by decide +kernel
theorem d_AR_moveOrCall_91 : decode b_AR_moveOrCall 91 = .ok (.getfield 7, 3) := by decide +kernel
theorem d_AR_moveOrCall_94 : decode b_AR_moveOrCall 94 = .ok (.invokevirtual 47, 3) := by decide +kernel
theorem d_AR_moveOrCall_97 : decode b_AR_moveOrCall 97 = .ok (.aload_n 0, 1) := by decide +kernel
theorem d_AR_moveOrCall_98 : decode b_AR_moveOrCall 98 = .ok (.getfield 7, 3) := by decide +kernel
theorem d_AR_moveOrCall_101 : decode b_AR_moveOrCall 101 = .ok (.invokevirtual 56, 3) := by decide +kernel
theorem d_AR_moveOrCall_104 : decode b_AR_moveOrCall 104 = .ok (.invokevirtual 53, 3) := by decide +kernel
theorem d_AR_moveOrCall_107 : decode b_AR_moveOrCall 107 = .ok (.goto 4, 3) := by decide +kernel
theorem d_AR_moveOrCall_110 : decode b_AR_moveOrCall 110 = .ok (.iconst (-1), 1) := by decide +kernel
theorem d_AR_moveOrCall_111 : decode b_AR_moveOrCall 111 = .ok (.ireturn, 1) := by decide +kernel
theorem d_AR_moveOrCall_112 : decode b_AR_moveOrCall 112 = .ok (.bipush 8, 2) := by decide +kernel
theorem d_AR_moveOrCall_114 : decode b_AR_moveOrCall 114 = .ok (.ireturn, 1) := by decide +kernel
theorem d_AR_moveOrCall_115 : decode b_AR_moveOrCall 115 = .ok (.bipush 9, 2) := by decide +kernel
theorem d_AR_moveOrCall_117 : decode b_AR_moveOrCall 117 = .ok (.ireturn, 1) := by decide +kernel
theorem d_AR_moveOrCall_118 : decode b_AR_moveOrCall 118 = .ok (.iconst (-1), 1) := by decide +kernel
theorem d_AR_moveOrCall_119 : decode b_AR_moveOrCall 119 = .ok (.ireturn, 1) := by decide +kernel
theorem d_AR_moveOrCall_120 : decode b_AR_moveOrCall 120 = .ok (.bipush 10, 2) := by decide +kernel
theorem d_AR_moveOrCall_122 : decode b_AR_moveOrCall 122 = .ok (.ireturn, 1) := by decide +kernel
set_option maxHeartbeats 4000000 in
set_option maxRecDepth 100000 in
theorem c_AR_moveOrCall (l : Launch) (E : Ev) (ad : Nat → Nat) (σ : XS) (a1 : Int32) : rC xCl l E (xW E ad) y_AR_moveOrCall b_AR_moveOrCall 2 (Option.some Jvm.ClassFile.FieldType.int) (rmo 1 22) [.ref (ad 7), .int a1] σ (zI (f_AR_moveOrCall σ a1)) := by
  refine rC.of (by decide) (Nat.le_of_ble_eq_true rfl) ?_
  intro p e s m below meth c A ls hc w hl
  generalize e0 : zI (f_AR_moveOrCall σ a1) = Z
  have hc : Cx xCl E A p s m ([.ref (ad 7), .int a1] : List Value).toArray meth c b_AR_moveOrCall 2 (Option.some Jvm.ClassFile.FieldType.int) "PageMachine$Arithmetic" := hc
  have hx := hc.1
  have hb := hc.2.1
  have ho := hc.2.2.2.2.2.1
  have hT := hc.2.2.2.2.2.2.1
  have hl : lv_has ls 2 [(0, .ref (ad 7)), (1, .int a1)] := hl
  refine lv_iload_n hx hb d_AR_moveOrCall_0 rfl (lv_at hl 1 rfl) ?_
  by_cases q1_0 : a1 = (10 : Int32)
  · refine lv_tableIn (tgt := 40) (off := 39) hx hb d_AR_moveOrCall_1 (by rw [q1_0]; decide) (by rw [q1_0]; decide) (by rw [q1_0]; rfl) (by decide) ?_
    refine lv_aload_n hx hb d_AR_moveOrCall_40 rfl (lv_at hl 0 rfl) ?_
    refine g_AR_core hc w mw_161 d_AR_moveOrCall_41 ?_
    refine rVI (rest := []) hc w (c_CO_t l E ad σ) kv_CO_t mw_574 5 rfl rfl ⟨Nat.le_of_ble_eq_true rfl, Nat.le_of_ble_eq_true rfl⟩ hl.1 rfl (Nat.le_of_ble_eq_true rfl) ⟨Nat.zero_le _, Nat.zero_le _⟩ d_AR_moveOrCall_44 (fun H locs w => ?_)
    refine lv_if_ne (tgt := 74) hx hb d_AR_moveOrCall_47 (by decide) (fun q47 => ?_) (fun q47 => ?_)
    · refine lv_iconst (v := -1) hx hb d_AR_moveOrCall_74 (by decide) ?_
      exact rt_i hc w d_AR_moveOrCall_75 (by rw [← e0, f_AR_moveOrCall, if_pos q1_0, if_neg q47] <;> rfl)
    · refine lv_aload_n hx hb d_AR_moveOrCall_50 rfl (lv_at hl 0 rfl) ?_
      refine g_AR_core hc w mw_161 d_AR_moveOrCall_51 ?_
      refine lv_aload_n hx hb d_AR_moveOrCall_54 rfl (lv_at hl 0 rfl) ?_
      refine g_AR_core hc w mw_161 d_AR_moveOrCall_55 ?_
      refine rVI (rest := [.ref (ad 5)]) hc w (c_CO_rd l E ad σ) kv_CO_rd mw_578 5 rfl rfl ⟨Nat.le_of_ble_eq_true rfl, Nat.le_of_ble_eq_true rfl⟩ hl.1 rfl (Nat.le_of_ble_eq_true rfl) ⟨Nat.zero_le _, Nat.zero_le _⟩ d_AR_moveOrCall_58 (fun H locs w => ?_)
      refine lv_aload_n hx hb d_AR_moveOrCall_61 rfl (lv_at hl 0 rfl) ?_
      refine g_AR_core hc w mw_161 d_AR_moveOrCall_62 ?_
      refine rVI (rest := [.int (f_CO_rd σ), .ref (ad 5)]) hc w (c_CO_s l E ad σ) kv_CO_s mw_584 5 rfl rfl ⟨Nat.le_of_ble_eq_true rfl, Nat.le_of_ble_eq_true rfl⟩ hl.1 rfl (Nat.le_of_ble_eq_true rfl) ⟨Nat.zero_le _, Nat.zero_le _⟩ d_AR_moveOrCall_65 (fun H locs w => ?_)
      refine cVI (rest := []) hc w (c_CO_put l E ad σ (f_CO_rd σ) (f_CO_s σ)) kv_CO_put mw_583 5 rfl rfl ⟨Nat.le_of_ble_eq_true rfl, Nat.le_of_ble_eq_true rfl⟩ hl.1 rfl (Nat.le_of_ble_eq_true rfl) ⟨Nat.zero_le _, Nat.zero_le _⟩ d_AR_moveOrCall_68 (fun z68 H locs hs68 w => ?_)
      have e_c1 : zI (f_AR_moveOrCall_c1 z68 a1 ) = Z := by rw [← e0, f_AR_moveOrCall, if_pos q1_0, if_pos q47, hs68]
      refine lv_goto (tgt := 75) hx hb d_AR_moveOrCall_71 (by decide) ?_
      exact rt_i hc w d_AR_moveOrCall_75 (by rw [← e_c1, f_AR_moveOrCall_c1] <;> rfl)
  · by_cases q1_1 : a1 = (11 : Int32)
    · refine lv_tableIn (tgt := 76) (off := 75) hx hb d_AR_moveOrCall_1 (by rw [q1_1]; decide) (by rw [q1_1]; decide) (by rw [q1_1]; rfl) (by decide) ?_
      refine lv_aload_n hx hb d_AR_moveOrCall_76 rfl (lv_at hl 0 rfl) ?_
      refine g_AR_core hc w mw_161 d_AR_moveOrCall_77 ?_
      refine rVI (rest := []) hc w (c_CO_t l E ad σ) kv_CO_t mw_574 5 rfl rfl ⟨Nat.le_of_ble_eq_true rfl, Nat.le_of_ble_eq_true rfl⟩ hl.1 rfl (Nat.le_of_ble_eq_true rfl) ⟨Nat.zero_le _, Nat.zero_le _⟩ d_AR_moveOrCall_80 (fun H locs w => ?_)
      refine lv_if_eq (tgt := 110) hx hb d_AR_moveOrCall_83 (by decide) (fun q83 => ?_) (fun q83 => ?_)
      · refine lv_iconst (v := -1) hx hb d_AR_moveOrCall_110 (by decide) ?_
        exact rt_i hc w d_AR_moveOrCall_111 (by rw [← e0, f_AR_moveOrCall, if_neg q1_0, if_pos q1_1, if_pos q83] <;> rfl)
      · refine lv_aload_n hx hb d_AR_moveOrCall_86 rfl (lv_at hl 0 rfl) ?_
        refine g_AR_core hc w mw_161 d_AR_moveOrCall_87 ?_
        refine lv_aload_n hx hb d_AR_moveOrCall_90 rfl (lv_at hl 0 rfl) ?_
        refine g_AR_core hc w mw_161 d_AR_moveOrCall_91 ?_
        refine rVI (rest := [.ref (ad 5)]) hc w (c_CO_rd l E ad σ) kv_CO_rd mw_578 5 rfl rfl ⟨Nat.le_of_ble_eq_true rfl, Nat.le_of_ble_eq_true rfl⟩ hl.1 rfl (Nat.le_of_ble_eq_true rfl) ⟨Nat.zero_le _, Nat.zero_le _⟩ d_AR_moveOrCall_94 (fun H locs w => ?_)
        refine lv_aload_n hx hb d_AR_moveOrCall_97 rfl (lv_at hl 0 rfl) ?_
        refine g_AR_core hc w mw_161 d_AR_moveOrCall_98 ?_
        refine rVI (rest := [.int (f_CO_rd σ), .ref (ad 5)]) hc w (c_CO_s l E ad σ) kv_CO_s mw_584 5 rfl rfl ⟨Nat.le_of_ble_eq_true rfl, Nat.le_of_ble_eq_true rfl⟩ hl.1 rfl (Nat.le_of_ble_eq_true rfl) ⟨Nat.zero_le _, Nat.zero_le _⟩ d_AR_moveOrCall_101 (fun H locs w => ?_)
        refine cVI (rest := []) hc w (c_CO_put l E ad σ (f_CO_rd σ) (f_CO_s σ)) kv_CO_put mw_583 5 rfl rfl ⟨Nat.le_of_ble_eq_true rfl, Nat.le_of_ble_eq_true rfl⟩ hl.1 rfl (Nat.le_of_ble_eq_true rfl) ⟨Nat.zero_le _, Nat.zero_le _⟩ d_AR_moveOrCall_104 (fun z104 H locs hs104 w => ?_)
        have e_c2 : zI (f_AR_moveOrCall_c2 z104 a1 ) = Z := by rw [← e0, f_AR_moveOrCall, if_neg q1_0, if_pos q1_1, if_neg q83, hs104]
        refine lv_goto (tgt := 111) hx hb d_AR_moveOrCall_107 (by decide) ?_
        exact rt_i hc w d_AR_moveOrCall_111 (by rw [← e_c2, f_AR_moveOrCall_c2] <;> rfl)
    · by_cases q1_2 : a1 = (12 : Int32)
      · refine lv_tableIn (tgt := 112) (off := 111) hx hb d_AR_moveOrCall_1 (by rw [q1_2]; decide) (by rw [q1_2]; decide) (by rw [q1_2]; rfl) (by decide) ?_
        refine lv_bipush (v := 8) hx hb d_AR_moveOrCall_112 (by decide) ?_
        exact rt_i hc w d_AR_moveOrCall_114 (by rw [← e0, f_AR_moveOrCall, if_neg q1_0, if_neg q1_1, if_pos q1_2] <;> rfl)
      · by_cases q1_3 : a1 = (13 : Int32)
        · refine lv_tableIn (tgt := 115) (off := 114) hx hb d_AR_moveOrCall_1 (by rw [q1_3]; decide) (by rw [q1_3]; decide) (by rw [q1_3]; rfl) (by decide) ?_
          refine lv_bipush (v := 9) hx hb d_AR_moveOrCall_115 (by decide) ?_
          exact rt_i hc w d_AR_moveOrCall_117 (by rw [← e0, f_AR_moveOrCall, if_neg q1_0, if_neg q1_1, if_neg q1_2, if_pos q1_3] <;> rfl)
        · by_cases q1_4 : a1 = (14 : Int32)
          · refine lv_tableIn (tgt := 120) (off := 119) hx hb d_AR_moveOrCall_1 (by rw [q1_4]; decide) (by rw [q1_4]; decide) (by rw [q1_4]; rfl) (by decide) ?_
            refine lv_bipush (v := 10) hx hb d_AR_moveOrCall_120 (by decide) ?_
            exact rt_i hc w d_AR_moveOrCall_122 (by rw [← e0, f_AR_moveOrCall, if_neg q1_0, if_neg q1_1, if_neg q1_2, if_neg q1_3, if_pos q1_4] <;> rfl)
          · by_cases q1_5 : a1 = (15 : Int32)
            · refine lv_tableIn (tgt := 118) (off := 117) hx hb d_AR_moveOrCall_1 (by rw [q1_5]; decide) (by rw [q1_5]; decide) (by rw [q1_5]; rfl) (by decide) ?_
              refine lv_iconst (v := -1) hx hb d_AR_moveOrCall_118 (by decide) ?_
              exact rt_i hc w d_AR_moveOrCall_119 (by rw [← e0, f_AR_moveOrCall, if_neg q1_0, if_neg q1_1, if_neg q1_2, if_neg q1_3, if_neg q1_4, if_pos q1_5] <;> rfl)
            · refine lv_tableOut (tgt := 120) hx hb d_AR_moveOrCall_1 (by have k0 := ne_k q1_0 (n := 10) (by decide); have k1 := ne_k q1_1 (n := 11) (by decide); have k2 := ne_k q1_2 (n := 12) (by decide); have k3 := ne_k q1_3 (n := 13) (by decide); have k4 := ne_k q1_4 (n := 14) (by decide); have k5 := ne_k q1_5 (n := 15) (by decide); omega) (by decide) ?_
              refine lv_bipush (v := 10) hx hb d_AR_moveOrCall_120 (by decide) ?_
              exact rt_i hc w d_AR_moveOrCall_122 (by rw [← e0, f_AR_moveOrCall, if_neg q1_0, if_neg q1_1, if_neg q1_2, if_neg q1_3, if_neg q1_4, if_neg q1_5] <;> rfl)
-- AR_moveHiLo
def f_AR_moveHiLo_c4 (σ103 : XS) (a1 : Int32)  : XS × Int32 := (σ103, (-1 : Int32))
def f_AR_moveHiLo_c3 (z88 : XS × Int32) (a1 : Int32)  : XS × Int32 := (z88.1, z88.2)
def f_AR_moveHiLo_c2 (σ65 : XS) (a1 : Int32)  : XS × Int32 := (σ65, (-1 : Int32))
def f_AR_moveHiLo_c1 (z50 : XS × Int32) (a1 : Int32)  : XS × Int32 := (z50.1, z50.2)
def f_AR_moveHiLo (σ : XS) (a1 : Int32) : XS × Int32 := if a1 = (16 : Int32) then (f_AR_moveHiLo_c1 (f_CO_put σ (f_CO_rd σ) (x_hi σ)) a1 ) else (if a1 = (17 : Int32) then (f_AR_moveHiLo_c2 (xs_hi σ (f_CO_s σ)) a1 ) else (if a1 = (18 : Int32) then (f_AR_moveHiLo_c3 (f_CO_put σ (f_CO_rd σ) (x_lo σ)) a1 ) else (if a1 = (19 : Int32) then (f_AR_moveHiLo_c4 (xs_lo σ (f_CO_s σ)) a1 ) else ((σ, (10 : Int32))))))
theorem d_AR_moveHiLo_0 : decode b_AR_moveHiLo 0 = .ok (.iload_n 1, 1) := by decide +kernel
theorem d_AR_moveHiLo_1 : decode b_AR_moveHiLo 1 = .ok (.tableswitch 107 16 19 #[31, 53, 69, 91], 31) := by decide +kernel
theorem d_AR_moveHiLo_32 : decode b_AR_moveHiLo 32 = .ok (.aload_n 0, 1) := by decide +kernel
theorem d_AR_moveHiLo_33 : decode b_AR_moveHiLo 33 = .ok (.getfield 7, 3) := by decide +kernel
theorem d_AR_moveHiLo_36 : decode b_AR_moveHiLo 36 = .ok (.aload_n 0, 1) := by decide +kernel
theorem d_AR_moveHiLo_37 : decode b_AR_moveHiLo 37 = .ok (.getfield 7, 3) := by decide +kernel
theorem d_AR_moveHiLo_40 : decode b_AR_moveHiLo 40 = .ok (.invokevirtual 47, 3) := by decide +kernel
theorem d_AR_moveHiLo_43 : decode b_AR_moveHiLo 43 = .ok (.aload_n 0, 1) := by decide +kernel
theorem d_AR_moveHiLo_44 : decode b_AR_moveHiLo 44 = .ok (.getfield 7, 3) := by decide +kernel
theorem d_AR_moveHiLo_47 : decode b_AR_moveHiLo 47 = .ok (.getfield 59, 3) := by decide +kernel
theorem d_AR_moveHiLo_50 : decode b_AR_moveHiLo 50 = .ok (.invokevirtual 53, 3) := by decide +kernel
theorem d_AR_moveHiLo_53 : decode b_AR_moveHiLo 53 = .ok (.ireturn, 1) := by decide +kernel
theorem d_AR_moveHiLo_54 : decode b_AR_moveHiLo 54 = .ok (.aload_n 0, 1) := by decide +kernel
theorem d_AR_moveHiLo_55 : decode b_AR_moveHiLo 55 = .ok (.getfield 7, 3) := by decide +kernel
theorem d_AR_moveHiLo_58 : decode b_AR_moveHiLo 58 = .ok (.aload_n 0, 1) := by decide +kernel
theorem d_AR_moveHiLo_59 : decode b_AR_moveHiLo 59 = .ok (.getfield 7, 3) := by decide +kernel
theorem d_AR_moveHiLo_62 : decode b_AR_moveHiLo 62 = .ok (.invokevirtual 56, 3) := by decide +kernel
theorem d_AR_moveHiLo_65 : decode b_AR_moveHiLo 65 = .ok (.putfield 59, 3) := by decide +kernel
theorem d_AR_moveHiLo_68 : decode b_AR_moveHiLo 68 = .ok (.iconst (-1), 1) := by decide +kernel
theorem d_AR_moveHiLo_69 : decode b_AR_moveHiLo 69 = .ok (.ireturn, 1) := by decide +kernel
theorem d_AR_moveHiLo_70 : decode b_AR_moveHiLo 70 = .ok (.aload_n 0, 1) := by decide +kernel
theorem d_AR_moveHiLo_71 : decode b_AR_moveHiLo 71 = .ok (.getfield 7, 3) := by decide +kernel
theorem d_AR_moveHiLo_74 : decode b_AR_moveHiLo 74 = .ok (.aload_n 0, 1) := by decide +kernel
theorem d_AR_moveHiLo_75 : decode b_AR_moveHiLo 75 = .ok (.getfield 7, 3) := by decide +kernel
theorem d_AR_moveHiLo_78 : decode b_AR_moveHiLo 78 = .ok (.invokevirtual 47, 3) := by decide +kernel
theorem d_AR_moveHiLo_81 : decode b_AR_moveHiLo 81 = .ok (.aload_n 0, 1) := by decide +kernel
theorem d_AR_moveHiLo_82 : decode b_AR_moveHiLo 82 = .ok (.getfield 7, 3) := by decide +kernel
theorem d_AR_moveHiLo_85 : decode b_AR_moveHiLo 85 = .ok (.getfield 63, 3) := by decide +kernel
theorem d_AR_moveHiLo_88 : decode b_AR_moveHiLo 88 = .ok (.invokevirtual 53, 3) := by decide +kernel
theorem d_AR_moveHiLo_91 : decode b_AR_moveHiLo 91 = .ok (.ireturn, 1) := by decide +kernel
theorem d_AR_moveHiLo_92 : decode b_AR_moveHiLo 92 = .ok (.aload_n 0, 1) := by decide +kernel
theorem d_AR_moveHiLo_93 : decode b_AR_moveHiLo 93 = .ok (.getfield 7, 3) := by decide +kernel
theorem d_AR_moveHiLo_96 : decode b_AR_moveHiLo 96 = .ok (.aload_n 0, 1) := by decide +kernel
theorem d_AR_moveHiLo_97 : decode b_AR_moveHiLo 97 = .ok (.getfield 7, 3) := by decide +kernel
theorem d_AR_moveHiLo_100 : decode b_AR_moveHiLo 100 = .ok (.invokevirtual 56, 3) := by decide +kernel
theorem d_AR_moveHiLo_103 : decode b_AR_moveHiLo 103 = .ok (.putfield 63, 3) := by decide +kernel
theorem d_AR_moveHiLo_106 : decode b_AR_moveHiLo 106 = .ok (.iconst (-1), 1) := by decide +kernel
theorem d_AR_moveHiLo_107 : decode b_AR_moveHiLo 107 = .ok (.ireturn, 1) := by decide +kernel
theorem d_AR_moveHiLo_108 : decode b_AR_moveHiLo 108 = .ok (.bipush 10, 2) := by decide +kernel
theorem d_AR_moveHiLo_110 : decode b_AR_moveHiLo 110 = .ok (.ireturn, 1) := by decide +kernel
set_option maxHeartbeats 4000000 in
set_option maxRecDepth 100000 in
theorem c_AR_moveHiLo (l : Launch) (E : Ev) (ad : Nat → Nat) (σ : XS) (a1 : Int32) : rC xCl l E (xW E ad) y_AR_moveHiLo b_AR_moveHiLo 2 (Option.some Jvm.ClassFile.FieldType.int) (rmo 1 22) [.ref (ad 7), .int a1] σ (zI (f_AR_moveHiLo σ a1)) := by
  refine rC.of (by decide) (Nat.le_of_ble_eq_true rfl) ?_
  intro p e s m below meth c A ls hc w hl
  generalize e0 : zI (f_AR_moveHiLo σ a1) = Z
  have hc : Cx xCl E A p s m ([.ref (ad 7), .int a1] : List Value).toArray meth c b_AR_moveHiLo 2 (Option.some Jvm.ClassFile.FieldType.int) "PageMachine$Arithmetic" := hc
  have hx := hc.1
  have hb := hc.2.1
  have ho := hc.2.2.2.2.2.1
  have hT := hc.2.2.2.2.2.2.1
  have hl : lv_has ls 2 [(0, .ref (ad 7)), (1, .int a1)] := hl
  refine lv_iload_n hx hb d_AR_moveHiLo_0 rfl (lv_at hl 1 rfl) ?_
  by_cases q1_0 : a1 = (16 : Int32)
  · refine lv_tableIn (tgt := 32) (off := 31) hx hb d_AR_moveHiLo_1 (by rw [q1_0]; decide) (by rw [q1_0]; decide) (by rw [q1_0]; rfl) (by decide) ?_
    refine lv_aload_n hx hb d_AR_moveHiLo_32 rfl (lv_at hl 0 rfl) ?_
    refine g_AR_core hc w mw_161 d_AR_moveHiLo_33 ?_
    refine lv_aload_n hx hb d_AR_moveHiLo_36 rfl (lv_at hl 0 rfl) ?_
    refine g_AR_core hc w mw_161 d_AR_moveHiLo_37 ?_
    refine rVI (rest := [.ref (ad 5)]) hc w (c_CO_rd l E ad σ) kv_CO_rd mw_578 5 rfl rfl ⟨Nat.le_of_ble_eq_true rfl, Nat.le_of_ble_eq_true rfl⟩ hl.1 rfl (Nat.le_of_ble_eq_true rfl) ⟨Nat.zero_le _, Nat.zero_le _⟩ d_AR_moveHiLo_40 (fun H locs w => ?_)
    refine lv_aload_n hx hb d_AR_moveHiLo_43 rfl (lv_at hl 0 rfl) ?_
    refine g_AR_core hc w mw_161 d_AR_moveHiLo_44 ?_
    refine g_CO_hi hc w mw_107 d_AR_moveHiLo_47 ?_
    refine cVI (rest := []) hc w (c_CO_put l E ad σ (f_CO_rd σ) (x_hi σ)) kv_CO_put mw_583 5 rfl rfl ⟨Nat.le_of_ble_eq_true rfl, Nat.le_of_ble_eq_true rfl⟩ hl.1 rfl (Nat.le_of_ble_eq_true rfl) ⟨Nat.zero_le _, Nat.zero_le _⟩ d_AR_moveHiLo_50 (fun z50 H locs hs50 w => ?_)
    have e_c1 : zI (f_AR_moveHiLo_c1 z50 a1 ) = Z := by rw [← e0, f_AR_moveHiLo, if_pos q1_0, hs50]
    exact rt_i hc w d_AR_moveHiLo_53 (by rw [← e_c1, f_AR_moveHiLo_c1] <;> rfl)
  · by_cases q1_1 : a1 = (17 : Int32)
    · refine lv_tableIn (tgt := 54) (off := 53) hx hb d_AR_moveHiLo_1 (by rw [q1_1]; decide) (by rw [q1_1]; decide) (by rw [q1_1]; rfl) (by decide) ?_
      refine lv_aload_n hx hb d_AR_moveHiLo_54 rfl (lv_at hl 0 rfl) ?_
      refine g_AR_core hc w mw_161 d_AR_moveHiLo_55 ?_
      refine lv_aload_n hx hb d_AR_moveHiLo_58 rfl (lv_at hl 0 rfl) ?_
      refine g_AR_core hc w mw_161 d_AR_moveHiLo_59 ?_
      refine rVI (rest := [.ref (ad 5)]) hc w (c_CO_s l E ad σ) kv_CO_s mw_584 5 rfl rfl ⟨Nat.le_of_ble_eq_true rfl, Nat.le_of_ble_eq_true rfl⟩ hl.1 rfl (Nat.le_of_ble_eq_true rfl) ⟨Nat.zero_le _, Nat.zero_le _⟩ d_AR_moveHiLo_62 (fun H locs w => ?_)
      refine p_CO_hi hc w mw_107 d_AR_moveHiLo_65 (fun σ65 H locs hs65 w => ?_)
      have e_c2 : zI (f_AR_moveHiLo_c2 σ65 a1 ) = Z := by rw [← e0, f_AR_moveHiLo, if_neg q1_0, if_pos q1_1, hs65]
      refine lv_iconst (v := -1) hx hb d_AR_moveHiLo_68 (by decide) ?_
      exact rt_i hc w d_AR_moveHiLo_69 (by rw [← e_c2, f_AR_moveHiLo_c2] <;> rfl)
    · by_cases q1_2 : a1 = (18 : Int32)
      · refine lv_tableIn (tgt := 70) (off := 69) hx hb d_AR_moveHiLo_1 (by rw [q1_2]; decide) (by rw [q1_2]; decide) (by rw [q1_2]; rfl) (by decide) ?_
        refine lv_aload_n hx hb d_AR_moveHiLo_70 rfl (lv_at hl 0 rfl) ?_
        refine g_AR_core hc w mw_161 d_AR_moveHiLo_71 ?_
        refine lv_aload_n hx hb d_AR_moveHiLo_74 rfl (lv_at hl 0 rfl) ?_
        refine g_AR_core hc w mw_161 d_AR_moveHiLo_75 ?_
        refine rVI (rest := [.ref (ad 5)]) hc w (c_CO_rd l E ad σ) kv_CO_rd mw_578 5 rfl rfl ⟨Nat.le_of_ble_eq_true rfl, Nat.le_of_ble_eq_true rfl⟩ hl.1 rfl (Nat.le_of_ble_eq_true rfl) ⟨Nat.zero_le _, Nat.zero_le _⟩ d_AR_moveHiLo_78 (fun H locs w => ?_)
        refine lv_aload_n hx hb d_AR_moveHiLo_81 rfl (lv_at hl 0 rfl) ?_
        refine g_AR_core hc w mw_161 d_AR_moveHiLo_82 ?_
        refine g_CO_lo hc w mw_110 d_AR_moveHiLo_85 ?_
        refine cVI (rest := []) hc w (c_CO_put l E ad σ (f_CO_rd σ) (x_lo σ)) kv_CO_put mw_583 5 rfl rfl ⟨Nat.le_of_ble_eq_true rfl, Nat.le_of_ble_eq_true rfl⟩ hl.1 rfl (Nat.le_of_ble_eq_true rfl) ⟨Nat.zero_le _, Nat.zero_le _⟩ d_AR_moveHiLo_88 (fun z88 H locs hs88 w => ?_)
        have e_c3 : zI (f_AR_moveHiLo_c3 z88 a1 ) = Z := by rw [← e0, f_AR_moveHiLo, if_neg q1_0, if_neg q1_1, if_pos q1_2, hs88]
        exact rt_i hc w d_AR_moveHiLo_91 (by rw [← e_c3, f_AR_moveHiLo_c3] <;> rfl)
      · by_cases q1_3 : a1 = (19 : Int32)
        · refine lv_tableIn (tgt := 92) (off := 91) hx hb d_AR_moveHiLo_1 (by rw [q1_3]; decide) (by rw [q1_3]; decide) (by rw [q1_3]; rfl) (by decide) ?_
          refine lv_aload_n hx hb d_AR_moveHiLo_92 rfl (lv_at hl 0 rfl) ?_
          refine g_AR_core hc w mw_161 d_AR_moveHiLo_93 ?_
          refine lv_aload_n hx hb d_AR_moveHiLo_96 rfl (lv_at hl 0 rfl) ?_
          refine g_AR_core hc w mw_161 d_AR_moveHiLo_97 ?_
          refine rVI (rest := [.ref (ad 5)]) hc w (c_CO_s l E ad σ) kv_CO_s mw_584 5 rfl rfl ⟨Nat.le_of_ble_eq_true rfl, Nat.le_of_ble_eq_true rfl⟩ hl.1 rfl (Nat.le_of_ble_eq_true rfl) ⟨Nat.zero_le _, Nat.zero_le _⟩ d_AR_moveHiLo_100 (fun H locs w => ?_)
          refine p_CO_lo hc w mw_110 d_AR_moveHiLo_103 (fun σ103 H locs hs103 w => ?_)
          have e_c4 : zI (f_AR_moveHiLo_c4 σ103 a1 ) = Z := by rw [← e0, f_AR_moveHiLo, if_neg q1_0, if_neg q1_1, if_neg q1_2, if_pos q1_3, hs103]
          refine lv_iconst (v := -1) hx hb d_AR_moveHiLo_106 (by decide) ?_
          exact rt_i hc w d_AR_moveHiLo_107 (by rw [← e_c4, f_AR_moveHiLo_c4] <;> rfl)
        · refine lv_tableOut (tgt := 108) hx hb d_AR_moveHiLo_1 (by have k0 := ne_k q1_0 (n := 16) (by decide); have k1 := ne_k q1_1 (n := 17) (by decide); have k2 := ne_k q1_2 (n := 18) (by decide); have k3 := ne_k q1_3 (n := 19) (by decide); omega) (by decide) ?_
          refine lv_bipush (v := 10) hx hb d_AR_moveHiLo_108 (by decide) ?_
          exact rt_i hc w d_AR_moveHiLo_110 (by rw [← e0, f_AR_moveHiLo, if_neg q1_0, if_neg q1_1, if_neg q1_2, if_neg q1_3] <;> rfl)
-- AR_multiplyOrDivide
def f_AR_multiplyOrDivide_c4 (z98 : XS × Int32) (a1 : Int32)  : XS × Int32 := (z98.1, z98.2)
def f_AR_multiplyOrDivide_c3 (z73 : XS × Int32) (a1 : Int32)  : XS × Int32 := (z73.1, z73.2)
def f_AR_multiplyOrDivide_c2 (z52 : XS × Int32) (a1 : Int32)  : XS × Int32 := (z52.1, z52.2)
def f_AR_multiplyOrDivide_c1 (z40 : XS × Int32) (a1 : Int32)  : XS × Int32 := (z40.1, z40.2)
def f_AR_multiplyOrDivide (σ : XS) (a1 : Int32) : XS × Int32 := if a1 = (24 : Int32) then (f_AR_multiplyOrDivide_c1 (f_CO_putProduct σ (f_AR_product σ)) a1 ) else (if a1 = (25 : Int32) then (f_AR_multiplyOrDivide_c2 (f_CO_putProduct σ (f_AR_plainProduct σ)) a1 ) else (if a1 = (26 : Int32) then (f_AR_multiplyOrDivide_c3 (f_AR_divide σ (Int32.toInt64 (f_CO_s σ)) (Int32.toInt64 (f_CO_t σ))) a1 ) else (if a1 = (27 : Int32) then (f_AR_multiplyOrDivide_c4 (f_AR_divide σ (f_AR_plain σ (f_CO_s σ)) (f_AR_plain σ (f_CO_t σ))) a1 ) else ((σ, (10 : Int32))))))
theorem d_AR_multiplyOrDivide_0 : decode b_AR_multiplyOrDivide 0 = .ok (.iload_n 1, 1) := by decide +kernel
theorem d_AR_multiplyOrDivide_1 : decode b_AR_multiplyOrDivide 1 = .ok (.tableswitch 101 24 27 #[31, 43, 55, 76], 31) := by decide +kernel
theorem d_AR_multiplyOrDivide_32 : decode b_AR_multiplyOrDivide 32 = .ok (.aload_n 0, 1) := by decide +kernel
theorem d_AR_multiplyOrDivide_33 : decode b_AR_multiplyOrDivide 33 = .ok (.getfield 7, 3) := by decide +kernel
theorem d_AR_multiplyOrDivide_36 : decode b_AR_multiplyOrDivide 36 = .ok (.aload_n 0, 1) := by decide +kernel
theorem d_AR_multiplyOrDivide_37 : decode b_AR_multiplyOrDivide 37 = .ok (.invokevirtual 66, 3) := by decide +kernel
theorem d_AR_multiplyOrDivide_40 : decode b_AR_multiplyOrDivide 40 = .ok (.invokevirtual 70, 3) := by decide +kernel
theorem d_AR_multiplyOrDivide_43 : decode b_AR_multiplyOrDivide 43 = .ok (.ireturn, 1) := by decide +kernel
theorem d_AR_multiplyOrDivide_44 : decode b_AR_multiplyOrDivide 44 = .ok (.aload_n 0, 1) := by decide +kernel
theorem d_AR_multiplyOrDivide_45 : decode b_AR_multiplyOrDivide 45 = .ok (.getfield 7, 3) := by decide +kernel
theorem d_AR_multiplyOrDivide_48 : decode b_AR_multiplyOrDivide 48 = .ok (.aload_n 0, 1) := by decide +kernel
theorem d_AR_multiplyOrDivide_49 : decode b_AR_multiplyOrDivide 49 = .ok (.invokevirtual 74, 3) := by decide +kernel
theorem d_AR_multiplyOrDivide_52 : decode b_AR_multiplyOrDivide 52 = .ok (.invokevirtual 70, 3) := by decide +kernel
theorem d_AR_multiplyOrDivide_55 : decode b_AR_multiplyOrDivide 55 = .ok (.ireturn, 1) := by decide +kernel
theorem d_AR_multiplyOrDivide_56 : decode b_AR_multiplyOrDivide 56 = .ok (.aload_n 0, 1) := by decide +kernel
theorem d_AR_multiplyOrDivide_57 : decode b_AR_multiplyOrDivide 57 = .ok (.aload_n 0, 1) := by decide +kernel
theorem d_AR_multiplyOrDivide_58 : decode b_AR_multiplyOrDivide 58 = .ok (.getfield 7, 3) := by decide +kernel
theorem d_AR_multiplyOrDivide_61 : decode b_AR_multiplyOrDivide 61 = .ok (.invokevirtual 56, 3) := by decide +kernel
theorem d_AR_multiplyOrDivide_64 : decode b_AR_multiplyOrDivide 64 = .ok (.i2l, 1) := by decide +kernel
theorem d_AR_multiplyOrDivide_65 : decode b_AR_multiplyOrDivide 65 = .ok (.aload_n 0, 1) := by decide +kernel
theorem d_AR_multiplyOrDivide_66 : decode b_AR_multiplyOrDivide 66 = .ok (.getfield 7, 3) := by decide +kernel
theorem d_AR_multiplyOrDivide_69 : decode b_AR_multiplyOrDivide 69 = .ok (.invokevirtual 38, 3) := by decide +kernel
theorem d_AR_multiplyOrDivide_72 : decode b_AR_multiplyOrDivide 72 = .ok (.i2l, 1) := by decide +kernel
theorem d_AR_multiplyOrDivide_73 : decode b_AR_multiplyOrDivide 73 = .ok (.invokevirtual 77, 3) := by decide +kernel
theorem d_AR_multiplyOrDivide_76 : decode b_AR_multiplyOrDivide 76 = .ok (.ireturn, 1) := by decide +kernel
theorem d_AR_multiplyOrDivide_77 : decode b_AR_multiplyOrDivide 77 = .ok (.aload_n 0, 1) := by decide +kernel
theorem d_AR_multiplyOrDivide_78 : decode b_AR_multiplyOrDivide 78 = .ok (.aload_n 0, 1) := by decide +kernel
theorem d_AR_multiplyOrDivide_79 : decode b_AR_multiplyOrDivide 79 = .ok (.getfield 7, 3) := by decide +kernel
theorem d_AR_multiplyOrDivide_82 : decode b_AR_multiplyOrDivide 82 = .ok (.invokevirtual 56, 3) := by decide +kernel
theorem d_AR_multiplyOrDivide_85 : decode b_AR_multiplyOrDivide 85 = .ok (.invokestatic 81, 3) := by decide +kernel
theorem d_AR_multiplyOrDivide_88 : decode b_AR_multiplyOrDivide 88 = .ok (.aload_n 0, 1) := by decide +kernel
theorem d_AR_multiplyOrDivide_89 : decode b_AR_multiplyOrDivide 89 = .ok (.getfield 7, 3) := by decide +kernel
theorem d_AR_multiplyOrDivide_92 : decode b_AR_multiplyOrDivide 92 = .ok (.invokevirtual 38, 3) := by decide +kernel
theorem d_AR_multiplyOrDivide_95 : decode b_AR_multiplyOrDivide 95 = .ok (.invokestatic 81, 3) := by decide +kernel
theorem d_AR_multiplyOrDivide_98 : decode b_AR_multiplyOrDivide 98 = .ok (.invokevirtual 77, 3) := by decide +kernel
theorem d_AR_multiplyOrDivide_101 : decode b_AR_multiplyOrDivide 101 = .ok (.ireturn, 1) := by decide +kernel
theorem d_AR_multiplyOrDivide_102 : decode b_AR_multiplyOrDivide 102 = .ok (.bipush 10, 2) := by decide +kernel
theorem d_AR_multiplyOrDivide_104 : decode b_AR_multiplyOrDivide 104 = .ok (.ireturn, 1) := by decide +kernel
set_option maxHeartbeats 4000000 in
set_option maxRecDepth 100000 in
theorem c_AR_multiplyOrDivide (l : Launch) (E : Ev) (ad : Nat → Nat) (σ : XS) (a1 : Int32) : rC xCl l E (xW E ad) y_AR_multiplyOrDivide b_AR_multiplyOrDivide 2 (Option.some Jvm.ClassFile.FieldType.int) (rmo 2 40) [.ref (ad 7), .int a1] σ (zI (f_AR_multiplyOrDivide σ a1)) := by
  refine rC.of (by decide) (Nat.le_of_ble_eq_true rfl) ?_
  intro p e s m below meth c A ls hc w hl
  generalize e0 : zI (f_AR_multiplyOrDivide σ a1) = Z
  have hc : Cx xCl E A p s m ([.ref (ad 7), .int a1] : List Value).toArray meth c b_AR_multiplyOrDivide 2 (Option.some Jvm.ClassFile.FieldType.int) "PageMachine$Arithmetic" := hc
  have hx := hc.1
  have hb := hc.2.1
  have ho := hc.2.2.2.2.2.1
  have hT := hc.2.2.2.2.2.2.1
  have hl : lv_has ls 2 [(0, .ref (ad 7)), (1, .int a1)] := hl
  refine lv_iload_n hx hb d_AR_multiplyOrDivide_0 rfl (lv_at hl 1 rfl) ?_
  by_cases q1_0 : a1 = (24 : Int32)
  · refine lv_tableIn (tgt := 32) (off := 31) hx hb d_AR_multiplyOrDivide_1 (by rw [q1_0]; decide) (by rw [q1_0]; decide) (by rw [q1_0]; rfl) (by decide) ?_
    refine lv_aload_n hx hb d_AR_multiplyOrDivide_32 rfl (lv_at hl 0 rfl) ?_
    refine g_AR_core hc w mw_161 d_AR_multiplyOrDivide_33 ?_
    refine lv_aload_n hx hb d_AR_multiplyOrDivide_36 rfl (lv_at hl 0 rfl) ?_
    refine rVL (rest := [.ref (ad 5)]) hc w (c_AR_product l E ad σ) kv_AR_product mw_597 7 rfl rfl ⟨Nat.le_of_ble_eq_true rfl, Nat.le_of_ble_eq_true rfl⟩ hl.1 rfl (Nat.le_of_ble_eq_true rfl) ⟨Nat.zero_le _, Nat.zero_le _⟩ d_AR_multiplyOrDivide_37 (fun H locs w => ?_)
    refine cVI (rest := []) hc w (c_CO_putProduct l E ad σ (f_AR_product σ)) kv_CO_putProduct mw_601 5 rfl rfl ⟨Nat.le_of_ble_eq_true rfl, Nat.le_of_ble_eq_true rfl⟩ hl.1 rfl (Nat.le_of_ble_eq_true rfl) ⟨Nat.zero_le _, Nat.zero_le _⟩ d_AR_multiplyOrDivide_40 (fun z40 H locs hs40 w => ?_)
    have e_c1 : zI (f_AR_multiplyOrDivide_c1 z40 a1 ) = Z := by rw [← e0, f_AR_multiplyOrDivide, if_pos q1_0, hs40]
    exact rt_i hc w d_AR_multiplyOrDivide_43 (by rw [← e_c1, f_AR_multiplyOrDivide_c1] <;> rfl)
  · by_cases q1_1 : a1 = (25 : Int32)
    · refine lv_tableIn (tgt := 44) (off := 43) hx hb d_AR_multiplyOrDivide_1 (by rw [q1_1]; decide) (by rw [q1_1]; decide) (by rw [q1_1]; rfl) (by decide) ?_
      refine lv_aload_n hx hb d_AR_multiplyOrDivide_44 rfl (lv_at hl 0 rfl) ?_
      refine g_AR_core hc w mw_161 d_AR_multiplyOrDivide_45 ?_
      refine lv_aload_n hx hb d_AR_multiplyOrDivide_48 rfl (lv_at hl 0 rfl) ?_
      refine rVL (rest := [.ref (ad 5)]) hc w (c_AR_plainProduct l E ad σ) kv_AR_plainProduct mw_605 7 rfl rfl ⟨Nat.le_of_ble_eq_true rfl, Nat.le_of_ble_eq_true rfl⟩ hl.1 rfl (Nat.le_of_ble_eq_true rfl) ⟨Nat.zero_le _, Nat.zero_le _⟩ d_AR_multiplyOrDivide_49 (fun H locs w => ?_)
      refine cVI (rest := []) hc w (c_CO_putProduct l E ad σ (f_AR_plainProduct σ)) kv_CO_putProduct mw_601 5 rfl rfl ⟨Nat.le_of_ble_eq_true rfl, Nat.le_of_ble_eq_true rfl⟩ hl.1 rfl (Nat.le_of_ble_eq_true rfl) ⟨Nat.zero_le _, Nat.zero_le _⟩ d_AR_multiplyOrDivide_52 (fun z52 H locs hs52 w => ?_)
      have e_c2 : zI (f_AR_multiplyOrDivide_c2 z52 a1 ) = Z := by rw [← e0, f_AR_multiplyOrDivide, if_neg q1_0, if_pos q1_1, hs52]
      exact rt_i hc w d_AR_multiplyOrDivide_55 (by rw [← e_c2, f_AR_multiplyOrDivide_c2] <;> rfl)
    · by_cases q1_2 : a1 = (26 : Int32)
      · refine lv_tableIn (tgt := 56) (off := 55) hx hb d_AR_multiplyOrDivide_1 (by rw [q1_2]; decide) (by rw [q1_2]; decide) (by rw [q1_2]; rfl) (by decide) ?_
        refine lv_aload_n hx hb d_AR_multiplyOrDivide_56 rfl (lv_at hl 0 rfl) ?_
        refine lv_aload_n hx hb d_AR_multiplyOrDivide_57 rfl (lv_at hl 0 rfl) ?_
        refine g_AR_core hc w mw_161 d_AR_multiplyOrDivide_58 ?_
        refine rVI (rest := [.ref (ad 7)]) hc w (c_CO_s l E ad σ) kv_CO_s mw_584 5 rfl rfl ⟨Nat.le_of_ble_eq_true rfl, Nat.le_of_ble_eq_true rfl⟩ hl.1 rfl (Nat.le_of_ble_eq_true rfl) ⟨Nat.zero_le _, Nat.zero_le _⟩ d_AR_multiplyOrDivide_61 (fun H locs w => ?_)
        refine lv_i2l hx hb d_AR_multiplyOrDivide_64 rfl ?_
        refine lv_aload_n hx hb d_AR_multiplyOrDivide_65 rfl (lv_at hl 0 rfl) ?_
        refine g_AR_core hc w mw_161 d_AR_multiplyOrDivide_66 ?_
        refine rVI (rest := [.long (Int32.toInt64 (f_CO_s σ)), .ref (ad 7)]) hc w (c_CO_t l E ad σ) kv_CO_t mw_574 5 rfl rfl ⟨Nat.le_of_ble_eq_true rfl, Nat.le_of_ble_eq_true rfl⟩ hl.1 rfl (Nat.le_of_ble_eq_true rfl) ⟨Nat.zero_le _, Nat.zero_le _⟩ d_AR_multiplyOrDivide_69 (fun H locs w => ?_)
        refine lv_i2l hx hb d_AR_multiplyOrDivide_72 rfl ?_
        refine cVI (rest := []) hc w (c_AR_divide l E ad σ (Int32.toInt64 (f_CO_s σ)) (Int32.toInt64 (f_CO_t σ))) kv_AR_divide mw_613 7 rfl rfl ⟨Nat.le_of_ble_eq_true rfl, Nat.le_of_ble_eq_true rfl⟩ hl.1 rfl (Nat.le_of_ble_eq_true rfl) ⟨Nat.zero_le _, Nat.zero_le _⟩ d_AR_multiplyOrDivide_73 (fun z73 H locs hs73 w => ?_)
        have e_c3 : zI (f_AR_multiplyOrDivide_c3 z73 a1 ) = Z := by rw [← e0, f_AR_multiplyOrDivide, if_neg q1_0, if_neg q1_1, if_pos q1_2, hs73]
        exact rt_i hc w d_AR_multiplyOrDivide_76 (by rw [← e_c3, f_AR_multiplyOrDivide_c3] <;> rfl)
      · by_cases q1_3 : a1 = (27 : Int32)
        · refine lv_tableIn (tgt := 77) (off := 76) hx hb d_AR_multiplyOrDivide_1 (by rw [q1_3]; decide) (by rw [q1_3]; decide) (by rw [q1_3]; rfl) (by decide) ?_
          refine lv_aload_n hx hb d_AR_multiplyOrDivide_77 rfl (lv_at hl 0 rfl) ?_
          refine lv_aload_n hx hb d_AR_multiplyOrDivide_78 rfl (lv_at hl 0 rfl) ?_
          refine g_AR_core hc w mw_161 d_AR_multiplyOrDivide_79 ?_
          refine rVI (rest := [.ref (ad 7)]) hc w (c_CO_s l E ad σ) kv_CO_s mw_584 5 rfl rfl ⟨Nat.le_of_ble_eq_true rfl, Nat.le_of_ble_eq_true rfl⟩ hl.1 rfl (Nat.le_of_ble_eq_true rfl) ⟨Nat.zero_le _, Nat.zero_le _⟩ d_AR_multiplyOrDivide_82 (fun H locs w => ?_)
          refine rSL (rest := [.ref (ad 7)]) hc w (c_AR_plain l E ad σ (f_CO_s σ)) ks_AR_plain mw_609 ⟨Nat.le_of_ble_eq_true rfl, Nat.le_of_ble_eq_true rfl⟩ hl.1 rfl (Nat.le_of_ble_eq_true rfl) ⟨Nat.zero_le _, Nat.zero_le _⟩ d_AR_multiplyOrDivide_85 (fun H locs w => ?_)
          refine lv_aload_n hx hb d_AR_multiplyOrDivide_88 rfl (lv_at hl 0 rfl) ?_
          refine g_AR_core hc w mw_161 d_AR_multiplyOrDivide_89 ?_
          refine rVI (rest := [.long (f_AR_plain σ (f_CO_s σ)), .ref (ad 7)]) hc w (c_CO_t l E ad σ) kv_CO_t mw_574 5 rfl rfl ⟨Nat.le_of_ble_eq_true rfl, Nat.le_of_ble_eq_true rfl⟩ hl.1 rfl (Nat.le_of_ble_eq_true rfl) ⟨Nat.zero_le _, Nat.zero_le _⟩ d_AR_multiplyOrDivide_92 (fun H locs w => ?_)
          refine rSL (rest := [.long (f_AR_plain σ (f_CO_s σ)), .ref (ad 7)]) hc w (c_AR_plain l E ad σ (f_CO_t σ)) ks_AR_plain mw_609 ⟨Nat.le_of_ble_eq_true rfl, Nat.le_of_ble_eq_true rfl⟩ hl.1 rfl (Nat.le_of_ble_eq_true rfl) ⟨Nat.zero_le _, Nat.zero_le _⟩ d_AR_multiplyOrDivide_95 (fun H locs w => ?_)
          refine cVI (rest := []) hc w (c_AR_divide l E ad σ (f_AR_plain σ (f_CO_s σ)) (f_AR_plain σ (f_CO_t σ))) kv_AR_divide mw_613 7 rfl rfl ⟨Nat.le_of_ble_eq_true rfl, Nat.le_of_ble_eq_true rfl⟩ hl.1 rfl (Nat.le_of_ble_eq_true rfl) ⟨Nat.zero_le _, Nat.zero_le _⟩ d_AR_multiplyOrDivide_98 (fun z98 H locs hs98 w => ?_)
          have e_c4 : zI (f_AR_multiplyOrDivide_c4 z98 a1 ) = Z := by rw [← e0, f_AR_multiplyOrDivide, if_neg q1_0, if_neg q1_1, if_neg q1_2, if_pos q1_3, hs98]
          exact rt_i hc w d_AR_multiplyOrDivide_101 (by rw [← e_c4, f_AR_multiplyOrDivide_c4] <;> rfl)
        · refine lv_tableOut (tgt := 102) hx hb d_AR_multiplyOrDivide_1 (by have k0 := ne_k q1_0 (n := 24) (by decide); have k1 := ne_k q1_1 (n := 25) (by decide); have k2 := ne_k q1_2 (n := 26) (by decide); have k3 := ne_k q1_3 (n := 27) (by decide); omega) (by decide) ?_
          refine lv_bipush (v := 10) hx hb d_AR_multiplyOrDivide_102 (by decide) ?_
          exact rt_i hc w d_AR_multiplyOrDivide_104 (by rw [← e0, f_AR_multiplyOrDivide, if_neg q1_0, if_neg q1_1, if_neg q1_2, if_neg q1_3] <;> rfl)
-- AR_addOrCombine
def f_AR_addOrCombine_c8 (z168 : XS × Int32) (a1 : Int32)  : XS × Int32 := (z168.1, z168.2)
def f_AR_addOrCombine_c7 (z153 : XS × Int32) (a1 : Int32)  : XS × Int32 := (z153.1, z153.2)
def f_AR_addOrCombine_c6 (z140 : XS × Int32) (a1 : Int32)  : XS × Int32 := (z140.1, z140.2)
def f_AR_addOrCombine_c5 (z127 : XS × Int32) (a1 : Int32)  : XS × Int32 := (z127.1, z127.2)
def f_AR_addOrCombine_c4 (z114 : XS × Int32) (a1 : Int32)  : XS × Int32 := (z114.1, z114.2)
def f_AR_addOrCombine_c3 (z101 : XS × Int32) (a1 : Int32)  : XS × Int32 := (z101.1, z101.2)
def f_AR_addOrCombine_c2 (z89 : XS × Int32) (a1 : Int32)  : XS × Int32 := (z89.1, z89.2)
def f_AR_addOrCombine_c1 (z76 : XS × Int32) (a1 : Int32)  : XS × Int32 := (z76.1, z76.2)
def f_AR_addOrCombine (σ : XS) (a1 : Int32) : XS × Int32 := if a1 = (32 : Int32) then (f_AR_addOrCombine_c1 (f_AR_putChecked σ (f_CO_rd σ) ((Int32.toInt64 (f_CO_s σ)) + (Int32.toInt64 (f_CO_t σ)))) a1 ) else (if a1 = (33 : Int32) then (f_AR_addOrCombine_c2 (f_CO_put σ (f_CO_rd σ) ((f_CO_s σ) + (f_CO_t σ))) a1 ) else (if a1 = (34 : Int32) then (f_AR_addOrCombine_c3 (f_AR_putChecked σ (f_CO_rd σ) ((Int32.toInt64 (f_CO_s σ)) - (Int32.toInt64 (f_CO_t σ)))) a1 ) else (if a1 = (35 : Int32) then (f_AR_addOrCombine_c4 (f_CO_put σ (f_CO_rd σ) ((f_CO_s σ) - (f_CO_t σ))) a1 ) else (if a1 = (36 : Int32) then (f_AR_addOrCombine_c5 (f_CO_put σ (f_CO_rd σ) ((f_CO_s σ) &&& (f_CO_t σ))) a1 ) else (if a1 = (37 : Int32) then (f_AR_addOrCombine_c6 (f_CO_put σ (f_CO_rd σ) ((f_CO_s σ) ||| (f_CO_t σ))) a1 ) else (if a1 = (38 : Int32) then (f_AR_addOrCombine_c7 (f_CO_put σ (f_CO_rd σ) ((f_CO_s σ) ^^^ (f_CO_t σ))) a1 ) else (f_AR_addOrCombine_c8 (f_CO_put σ (f_CO_rd σ) (((f_CO_s σ) ||| (f_CO_t σ)) ^^^ (-1 : Int32))) a1 )))))))
theorem d_AR_addOrCombine_0 : decode b_AR_addOrCombine 0 = .ok (.aload_n 0, 1) := by decide +kernel
theorem d_AR_addOrCombine_1 : decode b_AR_addOrCombine 1 = .ok (.getfield 7, 3) := by decide +kernel
theorem d_AR_addOrCombine_4 : decode b_AR_addOrCombine 4 = .ok (.invokevirtual 56, 3) := by decide +kernel
theorem d_AR_addOrCombine_7 : decode b_AR_addOrCombine 7 = .ok (.istore_n 2, 1) := by decide +kernel
theorem d_AR_addOrCombine_8 : decode b_AR_addOrCombine 8 = .ok (.aload_n 0, 1) := by decide +kernel
theorem d_AR_addOrCombine_9 : decode b_AR_addOrCombine 9 = .ok (.getfield 7, 3) := by decide +kernel
theorem d_AR_addOrCombine_12 : decode b_AR_addOrCombine 12 = .ok (.invokevirtual 38, 3) := by decide +kernel
theorem d_AR_addOrCombine_15 : decode b_AR_addOrCombine 15 = .ok (.istore_n 3, 1) := by decide +kernel
theorem d_AR_addOrCombine_16 : decode b_AR_addOrCombine 16 = .ok (.aload_n 0, 1) := by decide +kernel
theorem d_AR_addOrCombine_17 : decode b_AR_addOrCombine 17 = .ok (.getfield 7, 3) := by decide +kernel
theorem d_AR_addOrCombine_20 : decode b_AR_addOrCombine 20 = .ok (.invokevirtual 47, 3) := by decide +kernel
theorem d_AR_addOrCombine_23 : decode b_AR_addOrCombine 23 = .ok (.istore 4, 2) := by decide +kernel
theorem d_AR_addOrCombine_25 : decode b_AR_addOrCombine 25 = .ok (.iload_n 1, 1) := by decide +kernel
theorem d_AR_addOrCombine_26 : decode b_AR_addOrCombine 26 = .ok (.tableswitch 131 32 38 #[42, 54, 67, 79, 92, 105, 118], 42) := by decide +kernel
theorem d_AR_addOrCombine_68 : decode b_AR_addOrCombine 68 = .ok (.aload_n 0, 1) := by decide +kernel
theorem d_AR_addOrCombine_69 : decode b_AR_addOrCombine 69 = .ok (.iload 4, 2) := by decide +kernel
theorem d_AR_addOrCombine_71 : decode b_AR_addOrCombine 71 = .ok (.iload_n 2, 1) := by decide +kernel
theorem d_AR_addOrCombine_72 : decode b_AR_addOrCombine 72 = .ok (.i2l, 1) := by decide +kernel
theorem d_AR_addOrCombine_73 : decode b_AR_addOrCombine 73 = .ok (.iload_n 3, 1) := by decide +kernel
theorem d_AR_addOrCombine_74 : decode b_AR_addOrCombine 74 = .ok (.i2l, 1) := by decide +kernel
theorem d_AR_addOrCombine_75 : decode b_AR_addOrCombine 75 = .ok (.ladd, 1) := by decide +kernel
theorem d_AR_addOrCombine_76 : decode b_AR_addOrCombine 76 = .ok (.invokevirtual 85, 3) := by decide +kernel
theorem d_AR_addOrCombine_79 : decode b_AR_addOrCombine 79 = .ok (.ireturn, 1) := by decide +kernel
theorem d_AR_addOrCombine_80 : decode b_AR_addOrCombine 80 = .ok (.aload_n 0, 1) := by decide +kernel
theorem d_AR_addOrCombine_81 : decode b_AR_addOrCombine 81 = .ok (.getfield 7, 3) := by decide +kernel
theorem d_AR_addOrCombine_84 : decode b_AR_addOrCombine 84 = .ok (.iload 4, 2) := by decide +kernel
theorem d_AR_addOrCombine_86 : decode b_AR_addOrCombine 86 = .ok (.iload_n 2, 1) := by decide +kernel
theorem d_AR_addOrCombine_87 : decode b_AR_addOrCombine 87 = .ok (.iload_n 3, 1) := by decide +kernel
theorem d_AR_addOrCombine_88 : decode b_AR_addOrCombine 88 = .ok (.iadd, 1) := by decide +kernel
theorem d_AR_addOrCombine_89 : decode b_AR_addOrCombine 89 = .ok (.invokevirtual 53, 3) := by decide +kernel
theorem d_AR_addOrCombine_92 : decode b_AR_addOrCombine 92 = .ok (.ireturn, 1) := by decide +kernel
theorem d_AR_addOrCombine_93 : decode b_AR_addOrCombine 93 = .ok (.aload_n 0, 1) := by decide +kernel
theorem d_AR_addOrCombine_94 : decode b_AR_addOrCombine 94 = .ok (.iload 4, 2) := by decide +kernel
theorem d_AR_addOrCombine_96 : decode b_AR_addOrCombine 96 = .ok (.iload_n 2, 1) := by decide +kernel
theorem d_AR_addOrCombine_97 : decode b_AR_addOrCombine 97 = .ok (.i2l, 1) := by decide +kernel
theorem d_AR_addOrCombine_98 : decode b_AR_addOrCombine 98 = .ok (.iload_n 3, 1) := by decide +kernel
theorem d_AR_addOrCombine_99 : decode b_AR_addOrCombine 99 = .ok (.i2l, 1) := by decide +kernel
theorem d_AR_addOrCombine_100 : decode b_AR_addOrCombine 100 = .ok (.lsub, 1) := by decide +kernel
theorem d_AR_addOrCombine_101 : decode b_AR_addOrCombine 101 = .ok (.invokevirtual 85, 3) := by decide +kernel
theorem d_AR_addOrCombine_104 : decode b_AR_addOrCombine 104 = .ok (.ireturn, 1) := by decide +kernel
theorem d_AR_addOrCombine_105 : decode b_AR_addOrCombine 105 = .ok (.aload_n 0, 1) := by decide +kernel
theorem d_AR_addOrCombine_106 : decode b_AR_addOrCombine 106 = .ok (.getfield 7, 3) := by decide +kernel
theorem d_AR_addOrCombine_109 : decode b_AR_addOrCombine 109 = .ok (.iload 4, 2) := by decide +kernel
theorem d_AR_addOrCombine_111 : decode b_AR_addOrCombine 111 = .ok (.iload_n 2, 1) := by decide +kernel
theorem d_AR_addOrCombine_112 : decode b_AR_addOrCombine 112 = .ok (.iload_n 3, 1) := by decide +kernel
theorem d_AR_addOrCombine_113 : decode b_AR_addOrCombine 113 = .ok (.isub, 1) := by decide +kernel
theorem d_AR_addOrCombine_114 : decode b_AR_addOrCombine 114 = .ok (.invokevirtual 53, 3) := by decide +kernel
theorem d_AR_addOrCombine_117 : decode b_AR_addOrCombine 117 = .ok (.ireturn, 1) := by decide +kernel
theorem d_AR_addOrCombine_118 : decode b_AR_addOrCombine 118 = .ok (.aload_n 0, 1) := by decide +kernel
theorem d_AR_addOrCombine_119 : decode b_AR_addOrCombine 119 = .ok (.getfield 7, 3) := by decide +kernel
theorem d_AR_addOrCombine_122 : decode b_AR_addOrCombine 122 = .ok (.iload 4, 2) := by decide +kernel
theorem d_AR_addOrCombine_124 : decode b_AR_addOrCombine 124 = .ok (.iload_n 2, 1) := by decide +kernel
theorem d_AR_addOrCombine_125 : decode b_AR_addOrCombine 125 = .ok (.iload_n 3, 1) := by decide +kernel
theorem d_AR_addOrCombine_126 : decode b_AR_addOrCombine 126 = .ok (.iand, 1) := by decide +kernel
theorem d_AR_addOrCombine_127 : decode b_AR_addOrCombine 127 = .ok (.invokevirtual 53, 3) := by decide +kernel
theorem d_AR_addOrCombine_130 : decode b_AR_addOrCombine 130 = .ok (.ireturn, 1) := by decide +kernel
theorem d_AR_addOrCombine_131 : decode b_AR_addOrCombine 131 = .ok (.aload_n 0, 1) := by decide +kernel
theorem d_AR_addOrCombine_132 : decode b_AR_addOrCombine 132 = .ok (.getfield 7, 3) := by decide +kernel
theorem d_AR_addOrCombine_135 : decode b_AR_addOrCombine 135 = .ok (.iload 4, 2) := by decide +kernel
theorem d_AR_addOrCombine_137 : decode b_AR_addOrCombine 137 = .ok (.iload_n 2, 1) := by decide +kernel
theorem d_AR_addOrCombine_138 : decode b_AR_addOrCombine 138 = .ok (.iload_n 3, 1) := by decide +kernel
theorem d_AR_addOrCombine_139 : decode b_AR_addOrCombine 139 = .ok (.ior, 1) := by decide +kernel
theorem d_AR_addOrCombine_140 : decode b_AR_addOrCombine 140 = .ok (.invokevirtual 53, 3) := by decide +kernel
theorem d_AR_addOrCombine_143 : decode b_AR_addOrCombine 143 = .ok (.ireturn, 1) := by decide +kernel
theorem d_AR_addOrCombine_144 : decode b_AR_addOrCombine 144 = .ok (.aload_n 0, 1) := by decide +kernel
theorem d_AR_addOrCombine_145 : decode b_AR_addOrCombine 145 = .ok (.getfield 7, 3) := by decide +kernel
theorem d_AR_addOrCombine_148 : decode b_AR_addOrCombine 148 = .ok (.iload 4, 2) := by decide +kernel
theorem d_AR_addOrCombine_150 : decode b_AR_addOrCombine 150 = .ok (.iload_n 2, 1) := by decide +kernel
theorem d_AR_addOrCombine_151 : decode b_AR_addOrCombine 151 = .ok (.iload_n 3, 1) := by decide +kernel
theorem d_AR_addOrCombine_152 : decode b_AR_addOrCombine 152 = .ok (.ixor, 1) := by decide +kernel
theorem d_AR_addOrCombine_153 : decode b_AR_addOrCombine 153 = .ok (.invokevirtual 53, 3) := by decide +kernel
theorem d_AR_addOrCombine_156 : decode b_AR_addOrCombine 156 = .ok (.ireturn, 1) := by decide +kernel
theorem d_AR_addOrCombine_157 : decode b_AR_addOrCombine 157 = .ok (.aload_n 0, 1) := by decide +kernel
theorem d_AR_addOrCombine_158 : decode b_AR_addOrCombine 158 = .ok (.getfield 7, 3) := by decide +kernel
theorem d_AR_addOrCombine_161 : decode b_AR_addOrCombine 161 = .ok (.iload 4, 2) := by decide +kernel
theorem d_AR_addOrCombine_163 : decode b_AR_addOrCombine 163 = .ok (.iload_n 2, 1) := by decide +kernel
theorem d_AR_addOrCombine_164 : decode b_AR_addOrCombine 164 = .ok (.iload_n 3, 1) := by decide +kernel
theorem d_AR_addOrCombine_165 : decode b_AR_addOrCombine 165 = .ok (.ior, 1) := by decide +kernel
theorem d_AR_addOrCombine_166 : decode b_AR_addOrCombine 166 = .ok (.iconst (-1), 1) := by decide +kernel
theorem d_AR_addOrCombine_167 : decode b_AR_addOrCombine 167 = .ok (.ixor, 1) := by decide +kernel
theorem d_AR_addOrCombine_168 : decode b_AR_addOrCombine 168 = .ok (.invokevirtual 53, 3) := by decide +kernel
theorem d_AR_addOrCombine_171 : decode b_AR_addOrCombine 171 = .ok (.ireturn, 1) := by decide +kernel
set_option maxHeartbeats 4000000 in
set_option maxRecDepth 100000 in
theorem c_AR_addOrCombine (l : Launch) (E : Ev) (ad : Nat → Nat) (σ : XS) (a1 : Int32) : rC xCl l E (xW E ad) y_AR_addOrCombine b_AR_addOrCombine 5 (Option.some Jvm.ClassFile.FieldType.int) (rmo 2 45) [.ref (ad 7), .int a1] σ (zI (f_AR_addOrCombine σ a1)) := by
  refine rC.of (by decide) (Nat.le_of_ble_eq_true rfl) ?_
  intro p e s m below meth c A ls hc w hl
  generalize e0 : zI (f_AR_addOrCombine σ a1) = Z
  have hc : Cx xCl E A p s m ([.ref (ad 7), .int a1] : List Value).toArray meth c b_AR_addOrCombine 5 (Option.some Jvm.ClassFile.FieldType.int) "PageMachine$Arithmetic" := hc
  have hx := hc.1
  have hb := hc.2.1
  have ho := hc.2.2.2.2.2.1
  have hT := hc.2.2.2.2.2.2.1
  have hl : lv_has ls 5 [(0, .ref (ad 7)), (1, .int a1)] := hl
  refine lv_aload_n hx hb d_AR_addOrCombine_0 rfl (lv_at hl 0 rfl) ?_
  refine g_AR_core hc w mw_161 d_AR_addOrCombine_1 ?_
  refine rVI (rest := []) hc w (c_CO_s l E ad σ) kv_CO_s mw_584 5 rfl rfl ⟨Nat.le_of_ble_eq_true rfl, Nat.le_of_ble_eq_true rfl⟩ hl.1 rfl (Nat.le_of_ble_eq_true rfl) ⟨Nat.zero_le _, Nat.zero_le _⟩ d_AR_addOrCombine_4 (fun H locs w => ?_)
  refine lv_istore_n (lv' := [(2, .int (f_CO_s σ)), (0, .ref (ad 7)), (1, .int a1)]) hx hb d_AR_addOrCombine_7 rfl hl (by decide) rfl (fun ls hl => ?_)
  refine lv_aload_n hx hb d_AR_addOrCombine_8 rfl (lv_at hl 1 rfl) ?_
  refine g_AR_core hc w mw_161 d_AR_addOrCombine_9 ?_
  refine rVI (rest := []) hc w (c_CO_t l E ad σ) kv_CO_t mw_574 5 rfl rfl ⟨Nat.le_of_ble_eq_true rfl, Nat.le_of_ble_eq_true rfl⟩ hl.1 rfl (Nat.le_of_ble_eq_true rfl) ⟨Nat.zero_le _, Nat.zero_le _⟩ d_AR_addOrCombine_12 (fun H locs w => ?_)
  refine lv_istore_n (lv' := [(3, .int (f_CO_t σ)), (2, .int (f_CO_s σ)), (0, .ref (ad 7)), (1, .int a1)]) hx hb d_AR_addOrCombine_15 rfl hl (by decide) rfl (fun ls hl => ?_)
  refine lv_aload_n hx hb d_AR_addOrCombine_16 rfl (lv_at hl 2 rfl) ?_
  refine g_AR_core hc w mw_161 d_AR_addOrCombine_17 ?_
  refine rVI (rest := []) hc w (c_CO_rd l E ad σ) kv_CO_rd mw_578 5 rfl rfl ⟨Nat.le_of_ble_eq_true rfl, Nat.le_of_ble_eq_true rfl⟩ hl.1 rfl (Nat.le_of_ble_eq_true rfl) ⟨Nat.zero_le _, Nat.zero_le _⟩ d_AR_addOrCombine_20 (fun H locs w => ?_)
  refine lv_istore (lv' := [(4, .int (f_CO_rd σ)), (3, .int (f_CO_t σ)), (2, .int (f_CO_s σ)), (0, .ref (ad 7)), (1, .int a1)]) hx hb d_AR_addOrCombine_23 hl (by decide) rfl (fun ls hl => ?_)
  refine lv_iload_n hx hb d_AR_addOrCombine_25 rfl (lv_at hl 4 rfl) ?_
  by_cases q26_0 : a1 = (32 : Int32)
  · refine lv_tableIn (tgt := 68) (off := 42) hx hb d_AR_addOrCombine_26 (by rw [q26_0]; decide) (by rw [q26_0]; decide) (by rw [q26_0]; rfl) (by decide) ?_
    refine lv_aload_n hx hb d_AR_addOrCombine_68 rfl (lv_at hl 3 rfl) ?_
    refine lv_iload hx hb d_AR_addOrCombine_69 (lv_at hl 0 rfl) ?_
    refine lv_iload_n hx hb d_AR_addOrCombine_71 rfl (lv_at hl 2 rfl) ?_
    refine lv_i2l hx hb d_AR_addOrCombine_72 rfl ?_
    refine lv_iload_n hx hb d_AR_addOrCombine_73 rfl (lv_at hl 1 rfl) ?_
    refine lv_i2l hx hb d_AR_addOrCombine_74 rfl ?_
    refine lv_ladd hx hb d_AR_addOrCombine_75 ?_
    refine cVI (rest := []) hc w (c_AR_putChecked l E ad σ (f_CO_rd σ) ((Int32.toInt64 (f_CO_s σ)) + (Int32.toInt64 (f_CO_t σ)))) kv_AR_putChecked mw_621 7 rfl rfl ⟨Nat.le_of_ble_eq_true rfl, Nat.le_of_ble_eq_true rfl⟩ hl.1 rfl (Nat.le_of_ble_eq_true rfl) ⟨Nat.zero_le _, Nat.zero_le _⟩ d_AR_addOrCombine_76 (fun z76 H locs hs76 w => ?_)
    have e_c1 : zI (f_AR_addOrCombine_c1 z76 a1 ) = Z := by rw [← e0, f_AR_addOrCombine, if_pos q26_0, hs76]
    exact rt_i hc w d_AR_addOrCombine_79 (by rw [← e_c1, f_AR_addOrCombine_c1] <;> rfl)
  · by_cases q26_1 : a1 = (33 : Int32)
    · refine lv_tableIn (tgt := 80) (off := 54) hx hb d_AR_addOrCombine_26 (by rw [q26_1]; decide) (by rw [q26_1]; decide) (by rw [q26_1]; rfl) (by decide) ?_
      refine lv_aload_n hx hb d_AR_addOrCombine_80 rfl (lv_at hl 3 rfl) ?_
      refine g_AR_core hc w mw_161 d_AR_addOrCombine_81 ?_
      refine lv_iload hx hb d_AR_addOrCombine_84 (lv_at hl 0 rfl) ?_
      refine lv_iload_n hx hb d_AR_addOrCombine_86 rfl (lv_at hl 2 rfl) ?_
      refine lv_iload_n hx hb d_AR_addOrCombine_87 rfl (lv_at hl 1 rfl) ?_
      refine lv_iadd hx hb d_AR_addOrCombine_88 ?_
      refine cVI (rest := []) hc w (c_CO_put l E ad σ (f_CO_rd σ) ((f_CO_s σ) + (f_CO_t σ))) kv_CO_put mw_583 5 rfl rfl ⟨Nat.le_of_ble_eq_true rfl, Nat.le_of_ble_eq_true rfl⟩ hl.1 rfl (Nat.le_of_ble_eq_true rfl) ⟨Nat.zero_le _, Nat.zero_le _⟩ d_AR_addOrCombine_89 (fun z89 H locs hs89 w => ?_)
      have e_c2 : zI (f_AR_addOrCombine_c2 z89 a1 ) = Z := by rw [← e0, f_AR_addOrCombine, if_neg q26_0, if_pos q26_1, hs89]
      exact rt_i hc w d_AR_addOrCombine_92 (by rw [← e_c2, f_AR_addOrCombine_c2] <;> rfl)
    · by_cases q26_2 : a1 = (34 : Int32)
      · refine lv_tableIn (tgt := 93) (off := 67) hx hb d_AR_addOrCombine_26 (by rw [q26_2]; decide) (by rw [q26_2]; decide) (by rw [q26_2]; rfl) (by decide) ?_
        refine lv_aload_n hx hb d_AR_addOrCombine_93 rfl (lv_at hl 3 rfl) ?_
        refine lv_iload hx hb d_AR_addOrCombine_94 (lv_at hl 0 rfl) ?_
        refine lv_iload_n hx hb d_AR_addOrCombine_96 rfl (lv_at hl 2 rfl) ?_
        refine lv_i2l hx hb d_AR_addOrCombine_97 rfl ?_
        refine lv_iload_n hx hb d_AR_addOrCombine_98 rfl (lv_at hl 1 rfl) ?_
        refine lv_i2l hx hb d_AR_addOrCombine_99 rfl ?_
        refine lv_lsub hx hb d_AR_addOrCombine_100 ?_
        refine cVI (rest := []) hc w (c_AR_putChecked l E ad σ (f_CO_rd σ) ((Int32.toInt64 (f_CO_s σ)) - (Int32.toInt64 (f_CO_t σ)))) kv_AR_putChecked mw_621 7 rfl rfl ⟨Nat.le_of_ble_eq_true rfl, Nat.le_of_ble_eq_true rfl⟩ hl.1 rfl (Nat.le_of_ble_eq_true rfl) ⟨Nat.zero_le _, Nat.zero_le _⟩ d_AR_addOrCombine_101 (fun z101 H locs hs101 w => ?_)
        have e_c3 : zI (f_AR_addOrCombine_c3 z101 a1 ) = Z := by rw [← e0, f_AR_addOrCombine, if_neg q26_0, if_neg q26_1, if_pos q26_2, hs101]
        exact rt_i hc w d_AR_addOrCombine_104 (by rw [← e_c3, f_AR_addOrCombine_c3] <;> rfl)
      · by_cases q26_3 : a1 = (35 : Int32)
        · refine lv_tableIn (tgt := 105) (off := 79) hx hb d_AR_addOrCombine_26 (by rw [q26_3]; decide) (by rw [q26_3]; decide) (by rw [q26_3]; rfl) (by decide) ?_
          refine lv_aload_n hx hb d_AR_addOrCombine_105 rfl (lv_at hl 3 rfl) ?_
          refine g_AR_core hc w mw_161 d_AR_addOrCombine_106 ?_
          refine lv_iload hx hb d_AR_addOrCombine_109 (lv_at hl 0 rfl) ?_
          refine lv_iload_n hx hb d_AR_addOrCombine_111 rfl (lv_at hl 2 rfl) ?_
          refine lv_iload_n hx hb d_AR_addOrCombine_112 rfl (lv_at hl 1 rfl) ?_
          refine lv_isub hx hb d_AR_addOrCombine_113 ?_
          refine cVI (rest := []) hc w (c_CO_put l E ad σ (f_CO_rd σ) ((f_CO_s σ) - (f_CO_t σ))) kv_CO_put mw_583 5 rfl rfl ⟨Nat.le_of_ble_eq_true rfl, Nat.le_of_ble_eq_true rfl⟩ hl.1 rfl (Nat.le_of_ble_eq_true rfl) ⟨Nat.zero_le _, Nat.zero_le _⟩ d_AR_addOrCombine_114 (fun z114 H locs hs114 w => ?_)
          have e_c4 : zI (f_AR_addOrCombine_c4 z114 a1 ) = Z := by rw [← e0, f_AR_addOrCombine, if_neg q26_0, if_neg q26_1, if_neg q26_2, if_pos q26_3, hs114]
          exact rt_i hc w d_AR_addOrCombine_117 (by rw [← e_c4, f_AR_addOrCombine_c4] <;> rfl)
        · by_cases q26_4 : a1 = (36 : Int32)
          · refine lv_tableIn (tgt := 118) (off := 92) hx hb d_AR_addOrCombine_26 (by rw [q26_4]; decide) (by rw [q26_4]; decide) (by rw [q26_4]; rfl) (by decide) ?_
            refine lv_aload_n hx hb d_AR_addOrCombine_118 rfl (lv_at hl 3 rfl) ?_
            refine g_AR_core hc w mw_161 d_AR_addOrCombine_119 ?_
            refine lv_iload hx hb d_AR_addOrCombine_122 (lv_at hl 0 rfl) ?_
            refine lv_iload_n hx hb d_AR_addOrCombine_124 rfl (lv_at hl 2 rfl) ?_
            refine lv_iload_n hx hb d_AR_addOrCombine_125 rfl (lv_at hl 1 rfl) ?_
            refine lv_iand hx hb d_AR_addOrCombine_126 ?_
            refine cVI (rest := []) hc w (c_CO_put l E ad σ (f_CO_rd σ) ((f_CO_s σ) &&& (f_CO_t σ))) kv_CO_put mw_583 5 rfl rfl ⟨Nat.le_of_ble_eq_true rfl, Nat.le_of_ble_eq_true rfl⟩ hl.1 rfl (Nat.le_of_ble_eq_true rfl) ⟨Nat.zero_le _, Nat.zero_le _⟩ d_AR_addOrCombine_127 (fun z127 H locs hs127 w => ?_)
            have e_c5 : zI (f_AR_addOrCombine_c5 z127 a1 ) = Z := by rw [← e0, f_AR_addOrCombine, if_neg q26_0, if_neg q26_1, if_neg q26_2, if_neg q26_3, if_pos q26_4, hs127]
            exact rt_i hc w d_AR_addOrCombine_130 (by rw [← e_c5, f_AR_addOrCombine_c5] <;> rfl)
          · by_cases q26_5 : a1 = (37 : Int32)
            · refine lv_tableIn (tgt := 131) (off := 105) hx hb d_AR_addOrCombine_26 (by rw [q26_5]; decide) (by rw [q26_5]; decide) (by rw [q26_5]; rfl) (by decide) ?_
              refine lv_aload_n hx hb d_AR_addOrCombine_131 rfl (lv_at hl 3 rfl) ?_
              refine g_AR_core hc w mw_161 d_AR_addOrCombine_132 ?_
              refine lv_iload hx hb d_AR_addOrCombine_135 (lv_at hl 0 rfl) ?_
              refine lv_iload_n hx hb d_AR_addOrCombine_137 rfl (lv_at hl 2 rfl) ?_
              refine lv_iload_n hx hb d_AR_addOrCombine_138 rfl (lv_at hl 1 rfl) ?_
              refine lv_ior hx hb d_AR_addOrCombine_139 ?_
              refine cVI (rest := []) hc w (c_CO_put l E ad σ (f_CO_rd σ) ((f_CO_s σ) ||| (f_CO_t σ))) kv_CO_put mw_583 5 rfl rfl ⟨Nat.le_of_ble_eq_true rfl, Nat.le_of_ble_eq_true rfl⟩ hl.1 rfl (Nat.le_of_ble_eq_true rfl) ⟨Nat.zero_le _, Nat.zero_le _⟩ d_AR_addOrCombine_140 (fun z140 H locs hs140 w => ?_)
              have e_c6 : zI (f_AR_addOrCombine_c6 z140 a1 ) = Z := by rw [← e0, f_AR_addOrCombine, if_neg q26_0, if_neg q26_1, if_neg q26_2, if_neg q26_3, if_neg q26_4, if_pos q26_5, hs140]
              exact rt_i hc w d_AR_addOrCombine_143 (by rw [← e_c6, f_AR_addOrCombine_c6] <;> rfl)
            · by_cases q26_6 : a1 = (38 : Int32)
              · refine lv_tableIn (tgt := 144) (off := 118) hx hb d_AR_addOrCombine_26 (by rw [q26_6]; decide) (by rw [q26_6]; decide) (by rw [q26_6]; rfl) (by decide) ?_
                refine lv_aload_n hx hb d_AR_addOrCombine_144 rfl (lv_at hl 3 rfl) ?_
                refine g_AR_core hc w mw_161 d_AR_addOrCombine_145 ?_
                refine lv_iload hx hb d_AR_addOrCombine_148 (lv_at hl 0 rfl) ?_
                refine lv_iload_n hx hb d_AR_addOrCombine_150 rfl (lv_at hl 2 rfl) ?_
                refine lv_iload_n hx hb d_AR_addOrCombine_151 rfl (lv_at hl 1 rfl) ?_
                refine lv_ixor hx hb d_AR_addOrCombine_152 ?_
                refine cVI (rest := []) hc w (c_CO_put l E ad σ (f_CO_rd σ) ((f_CO_s σ) ^^^ (f_CO_t σ))) kv_CO_put mw_583 5 rfl rfl ⟨Nat.le_of_ble_eq_true rfl, Nat.le_of_ble_eq_true rfl⟩ hl.1 rfl (Nat.le_of_ble_eq_true rfl) ⟨Nat.zero_le _, Nat.zero_le _⟩ d_AR_addOrCombine_153 (fun z153 H locs hs153 w => ?_)
                have e_c7 : zI (f_AR_addOrCombine_c7 z153 a1 ) = Z := by rw [← e0, f_AR_addOrCombine, if_neg q26_0, if_neg q26_1, if_neg q26_2, if_neg q26_3, if_neg q26_4, if_neg q26_5, if_pos q26_6, hs153]
                exact rt_i hc w d_AR_addOrCombine_156 (by rw [← e_c7, f_AR_addOrCombine_c7] <;> rfl)
              · refine lv_tableOut (tgt := 157) hx hb d_AR_addOrCombine_26 (by have k0 := ne_k q26_0 (n := 32) (by decide); have k1 := ne_k q26_1 (n := 33) (by decide); have k2 := ne_k q26_2 (n := 34) (by decide); have k3 := ne_k q26_3 (n := 35) (by decide); have k4 := ne_k q26_4 (n := 36) (by decide); have k5 := ne_k q26_5 (n := 37) (by decide); have k6 := ne_k q26_6 (n := 38) (by decide); omega) (by decide) ?_
                refine lv_aload_n hx hb d_AR_addOrCombine_157 rfl (lv_at hl 3 rfl) ?_
                refine g_AR_core hc w mw_161 d_AR_addOrCombine_158 ?_
                refine lv_iload hx hb d_AR_addOrCombine_161 (lv_at hl 0 rfl) ?_
                refine lv_iload_n hx hb d_AR_addOrCombine_163 rfl (lv_at hl 2 rfl) ?_
                refine lv_iload_n hx hb d_AR_addOrCombine_164 rfl (lv_at hl 1 rfl) ?_
                refine lv_ior hx hb d_AR_addOrCombine_165 ?_
                refine lv_iconst (v := -1) hx hb d_AR_addOrCombine_166 (by decide) ?_
                refine lv_ixor hx hb d_AR_addOrCombine_167 ?_
                refine cVI (rest := []) hc w (c_CO_put l E ad σ (f_CO_rd σ) (((f_CO_s σ) ||| (f_CO_t σ)) ^^^ (-1 : Int32))) kv_CO_put mw_583 5 rfl rfl ⟨Nat.le_of_ble_eq_true rfl, Nat.le_of_ble_eq_true rfl⟩ hl.1 rfl (Nat.le_of_ble_eq_true rfl) ⟨Nat.zero_le _, Nat.zero_le _⟩ d_AR_addOrCombine_168 (fun z168 H locs hs168 w => ?_)
                have e_c8 : zI (f_AR_addOrCombine_c8 z168 a1 ) = Z := by rw [← e0, f_AR_addOrCombine, if_neg q26_0, if_neg q26_1, if_neg q26_2, if_neg q26_3, if_neg q26_4, if_neg q26_5, if_neg q26_6, hs168]
                exact rt_i hc w d_AR_addOrCombine_171 (by rw [← e_c8, f_AR_addOrCombine_c8] <;> rfl)
-- AR_compare
def f_AR_compare_c2 (z65 : XS × Int32) (a1 : Int32)  : XS × Int32 := (z65.1, z65.2)
def f_AR_compare_65 (σ : XS) (a1 : Int32) (w65_1 : Int32) (w65_2 : Bool) : XS × Int32 := f_AR_compare_c2 (f_CO_put σ w65_1 (zb w65_2)) a1 
def f_AR_compare_c1 (z93 : XS × Int32) (a1 : Int32)  : XS × Int32 := (z93.1, z93.2)
def f_AR_compare_93 (σ : XS) (a1 : Int32) (w93_1 : Int32) (w93_2 : Bool) : XS × Int32 := f_AR_compare_c1 (f_CO_put σ w93_1 (zb w93_2)) a1 
def f_AR_compare (σ : XS) (a1 : Int32) : XS × Int32 := if a1 = (42 : Int32) then (if (f_CO_t σ) ≤ (f_CO_s σ) then (f_AR_compare_65 σ a1 (f_CO_rd σ) false) else (f_AR_compare_65 σ a1 (f_CO_rd σ) true)) else (if a1 = (43 : Int32) then (if (zb (f_AR_plainlyBelow σ (f_CO_s σ) (f_CO_t σ))) = 0 then (f_AR_compare_93 σ a1 (f_CO_rd σ) false) else (f_AR_compare_93 σ a1 (f_CO_rd σ) true)) else ((σ, (10 : Int32))))
theorem d_AR_compare_0 : decode b_AR_compare 0 = .ok (.aload_n 0, 1) := by decide +kernel
theorem d_AR_compare_1 : decode b_AR_compare 1 = .ok (.getfield 7, 3) := by decide +kernel
theorem d_AR_compare_4 : decode b_AR_compare 4 = .ok (.invokevirtual 56, 3) := by decide +kernel
theorem d_AR_compare_7 : decode b_AR_compare 7 = .ok (.istore_n 2, 1) := by decide +kernel
theorem d_AR_compare_8 : decode b_AR_compare 8 = .ok (.aload_n 0, 1) := by decide +kernel
theorem d_AR_compare_9 : decode b_AR_compare 9 = .ok (.getfield 7, 3) := by decide +kernel
theorem d_AR_compare_12 : decode b_AR_compare 12 = .ok (.invokevirtual 38, 3) := by decide +kernel
theorem d_AR_compare_15 : decode b_AR_compare 15 = .ok (.istore_n 3, 1) := by decide +kernel
theorem d_AR_compare_16 : decode b_AR_compare 16 = .ok (.iload_n 1, 1) := by decide +kernel
theorem d_AR_compare_17 : decode b_AR_compare 17 = .ok (.lookupswitch 80 #[(42, 27), (43, 52)], 27) := by decide +kernel
theorem d_AR_compare_44 : decode b_AR_compare 44 = .ok (.aload_n 0, 1) := by decide +kernel
theorem d_AR_compare_45 : decode b_AR_compare 45 = .ok (.getfield 7, 3) := by decide +kernel
theorem d_AR_compare_48 : decode b_AR_compare 48 = .ok (.aload_n 0, 1) := by decide +kernel
theorem d_AR_compare_49 : decode b_AR_compare 49 = .ok (.getfield 7, 3) := by decide +kernel
theorem d_AR_compare_52 : decode b_AR_compare 52 = .ok (.invokevirtual 47, 3) := by decide +kernel
theorem d_AR_compare_55 : decode b_AR_compare 55 = .ok (.iload_n 2, 1) := by decide +kernel
theorem d_AR_compare_56 : decode b_AR_compare 56 = .ok (.iload_n 3, 1) := by decide +kernel
theorem d_AR_compare_57 : decode b_AR_compare 57 = .ok (.if_icmp .ge 7, 3) := by decide +kernel
theorem d_AR_compare_60 : decode b_AR_compare 60 = .ok (.iconst 1, 1) := by decide +kernel
theorem d_AR_compare_61 : decode b_AR_compare 61 = .ok (.goto 4, 3) := by decide +kernel
theorem d_AR_compare_64 : decode b_AR_compare 64 = .ok (.iconst 0, 1) := by decide +kernel
theorem d_AR_compare_65 : decode b_AR_compare 65 = .ok (.invokevirtual 53, 3) := by decide +kernel
theorem d_AR_compare_68 : decode b_AR_compare 68 = .ok (.ireturn, 1) := by decide +kernel
theorem d_AR_compare_69 : decode b_AR_compare 69 = .ok (.aload_n 0, 1) := by decide +kernel
theorem d_AR_compare_70 : decode b_AR_compare 70 = .ok (.getfield 7, 3) := by decide +kernel
theorem d_AR_compare_73 : decode b_AR_compare 73 = .ok (.aload_n 0, 1) := by decide +kernel
theorem d_AR_compare_74 : decode b_AR_compare 74 = .ok (.getfield 7, 3) := by decide +kernel
theorem d_AR_compare_77 : decode b_AR_compare 77 = .ok (.invokevirtual 47, 3) := by decide +kernel
theorem d_AR_compare_80 : decode b_AR_compare 80 = .ok (.iload_n 2, 1) := by decide +kernel
theorem d_AR_compare_81 : decode b_AR_compare 81 = .ok (.iload_n 3, 1) := by decide +kernel
theorem d_AR_compare_82 : decode b_AR_compare 82 = .ok (.invokestatic 89, 3) := by decide +kernel
theorem d_AR_compare_85 : decode b_AR_compare 85 = .ok (.ifCond .eq 7, 3) := by decide +kernel
theorem d_AR_compare_88 : decode b_AR_compare 88 = .ok (.iconst 1, 1) := by decide +kernel
theorem d_AR_compare_89 : decode b_AR_compare 89 = .ok (.goto 4, 3) := by decide +kernel
theorem d_AR_compare_92 : decode b_AR_compare 92 = .ok (.iconst 0, 1) := by decide +kernel
theorem d_AR_compare_93 : decode b_AR_compare 93 = .ok (.invokevirtual 53, 3) := by decide +kernel
theorem d_AR_compare_96 : decode b_AR_compare 96 = .ok (.ireturn, 1) := by decide +kernel
theorem d_AR_compare_97 : decode b_AR_compare 97 = .ok (.bipush 10, 2) := by decide +kernel
theorem d_AR_compare_99 : decode b_AR_compare 99 = .ok (.ireturn, 1) := by decide +kernel
set_option maxHeartbeats 4000000 in
set_option maxRecDepth 100000 in
theorem c_AR_compare (l : Launch) (E : Ev) (ad : Nat → Nat) (σ : XS) (a1 : Int32) : rC xCl l E (xW E ad) y_AR_compare b_AR_compare 4 (Option.some Jvm.ClassFile.FieldType.int) (rmo 1 22) [.ref (ad 7), .int a1] σ (zI (f_AR_compare σ a1)) := by
  refine rC.of (by decide) (Nat.le_of_ble_eq_true rfl) ?_
  intro p e s m below meth c A ls hc w hl
  generalize e0 : zI (f_AR_compare σ a1) = Z
  have hc : Cx xCl E A p s m ([.ref (ad 7), .int a1] : List Value).toArray meth c b_AR_compare 4 (Option.some Jvm.ClassFile.FieldType.int) "PageMachine$Arithmetic" := hc
  have hx := hc.1
  have hb := hc.2.1
  have ho := hc.2.2.2.2.2.1
  have hT := hc.2.2.2.2.2.2.1
  have hl : lv_has ls 4 [(0, .ref (ad 7)), (1, .int a1)] := hl
  have J65 : ∀ (w65_1 : Int32) (w65_2 : Bool) (H : Heap) (locs : List Loc) (ls : Array Slot), Wd xCl E A s.heap H locs (xW E ad σ) → lv_has ls 4 [] → zI (f_AR_compare_65 σ a1 w65_1 w65_2) = Z → W p l e (rmo 1 22) s m ([.ref (ad 7), .int a1] : List Value).toArray below meth c H locs 0 0 (MQ below (rQ xCl (xW E ad) E A Z) ([.ref (ad 7), .int a1] : List Value).toArray s 0 0 A) (F0 m 65 ls [.int (zb w65_2), .int w65_1, .ref (ad 5)]) := by
    intro w65_1 w65_2 H locs ls w hl e65
    refine cVI (rest := []) hc w (c_CO_put l E ad σ w65_1 (zb w65_2)) kv_CO_put mw_583 5 rfl rfl ⟨Nat.le_of_ble_eq_true rfl, Nat.le_of_ble_eq_true rfl⟩ hl.1 rfl (Nat.le_of_ble_eq_true rfl) ⟨Nat.zero_le _, Nat.zero_le _⟩ d_AR_compare_65 (fun z65 H locs hs65 w => ?_)
    have e_c2 : zI (f_AR_compare_c2 z65 a1 ) = Z := by rw [← e65, f_AR_compare_65, hs65]
    exact rt_i hc w d_AR_compare_68 (by rw [← e_c2, f_AR_compare_c2] <;> rfl)
  have J93 : ∀ (w93_1 : Int32) (w93_2 : Bool) (H : Heap) (locs : List Loc) (ls : Array Slot), Wd xCl E A s.heap H locs (xW E ad σ) → lv_has ls 4 [] → zI (f_AR_compare_93 σ a1 w93_1 w93_2) = Z → W p l e (rmo 1 22) s m ([.ref (ad 7), .int a1] : List Value).toArray below meth c H locs 0 0 (MQ below (rQ xCl (xW E ad) E A Z) ([.ref (ad 7), .int a1] : List Value).toArray s 0 0 A) (F0 m 93 ls [.int (zb w93_2), .int w93_1, .ref (ad 5)]) := by
    intro w93_1 w93_2 H locs ls w hl e93
    refine cVI (rest := []) hc w (c_CO_put l E ad σ w93_1 (zb w93_2)) kv_CO_put mw_583 5 rfl rfl ⟨Nat.le_of_ble_eq_true rfl, Nat.le_of_ble_eq_true rfl⟩ hl.1 rfl (Nat.le_of_ble_eq_true rfl) ⟨Nat.zero_le _, Nat.zero_le _⟩ d_AR_compare_93 (fun z93 H locs hs93 w => ?_)
    have e_c1 : zI (f_AR_compare_c1 z93 a1 ) = Z := by rw [← e93, f_AR_compare_93, hs93]
    exact rt_i hc w d_AR_compare_96 (by rw [← e_c1, f_AR_compare_c1] <;> rfl)
  refine lv_aload_n hx hb d_AR_compare_0 rfl (lv_at hl 0 rfl) ?_
  refine g_AR_core hc w mw_161 d_AR_compare_1 ?_
  refine rVI (rest := []) hc w (c_CO_s l E ad σ) kv_CO_s mw_584 5 rfl rfl ⟨Nat.le_of_ble_eq_true rfl, Nat.le_of_ble_eq_true rfl⟩ hl.1 rfl (Nat.le_of_ble_eq_true rfl) ⟨Nat.zero_le _, Nat.zero_le _⟩ d_AR_compare_4 (fun H locs w => ?_)
  refine lv_istore_n (lv' := [(2, .int (f_CO_s σ)), (0, .ref (ad 7)), (1, .int a1)]) hx hb d_AR_compare_7 rfl hl (by decide) rfl (fun ls hl => ?_)
  refine lv_aload_n hx hb d_AR_compare_8 rfl (lv_at hl 1 rfl) ?_
  refine g_AR_core hc w mw_161 d_AR_compare_9 ?_
  refine rVI (rest := []) hc w (c_CO_t l E ad σ) kv_CO_t mw_574 5 rfl rfl ⟨Nat.le_of_ble_eq_true rfl, Nat.le_of_ble_eq_true rfl⟩ hl.1 rfl (Nat.le_of_ble_eq_true rfl) ⟨Nat.zero_le _, Nat.zero_le _⟩ d_AR_compare_12 (fun H locs w => ?_)
  refine lv_istore_n (lv' := [(3, .int (f_CO_t σ)), (2, .int (f_CO_s σ)), (0, .ref (ad 7)), (1, .int a1)]) hx hb d_AR_compare_15 rfl hl (by decide) rfl (fun ls hl => ?_)
  refine lv_iload_n hx hb d_AR_compare_16 rfl (lv_at hl 3 rfl) ?_
  by_cases q17_0 : a1 = (42 : Int32)
  · refine lv_lookup (tgt := 44) (off := 27) hx hb d_AR_compare_17 (by decide) (by rw [q17_0]; decide) (by decide) ?_
    refine lv_aload_n hx hb d_AR_compare_44 rfl (lv_at hl 2 rfl) ?_
    refine g_AR_core hc w mw_161 d_AR_compare_45 ?_
    refine lv_aload_n hx hb d_AR_compare_48 rfl (lv_at hl 2 rfl) ?_
    refine g_AR_core hc w mw_161 d_AR_compare_49 ?_
    refine rVI (rest := [.ref (ad 5)]) hc w (c_CO_rd l E ad σ) kv_CO_rd mw_578 5 rfl rfl ⟨Nat.le_of_ble_eq_true rfl, Nat.le_of_ble_eq_true rfl⟩ hl.1 rfl (Nat.le_of_ble_eq_true rfl) ⟨Nat.zero_le _, Nat.zero_le _⟩ d_AR_compare_52 (fun H locs w => ?_)
    refine lv_iload_n hx hb d_AR_compare_55 rfl (lv_at hl 1 rfl) ?_
    refine lv_iload_n hx hb d_AR_compare_56 rfl (lv_at hl 0 rfl) ?_
    refine lv_icmp_ge (tgt := 64) hx hb d_AR_compare_57 (by decide) (fun q57 => ?_) (fun q57 => ?_)
    · refine lv_iconst (v := 0) hx hb d_AR_compare_64 (by decide) ?_
      exact J65 (f_CO_rd σ) false _ _ _ w (lv_sub hl [] rfl) (by rw [← e0, f_AR_compare, if_pos q17_0, if_pos q57])
    · refine lv_iconst (v := 1) hx hb d_AR_compare_60 (by decide) ?_
      refine lv_goto (tgt := 65) hx hb d_AR_compare_61 (by decide) ?_
      exact J65 (f_CO_rd σ) true _ _ _ w (lv_sub hl [] rfl) (by rw [← e0, f_AR_compare, if_pos q17_0, if_neg q57])
  · by_cases q17_1 : a1 = (43 : Int32)
    · refine lv_lookup (tgt := 69) (off := 52) hx hb d_AR_compare_17 (by decide) (by rw [q17_1]; decide) (by decide) ?_
      refine lv_aload_n hx hb d_AR_compare_69 rfl (lv_at hl 2 rfl) ?_
      refine g_AR_core hc w mw_161 d_AR_compare_70 ?_
      refine lv_aload_n hx hb d_AR_compare_73 rfl (lv_at hl 2 rfl) ?_
      refine g_AR_core hc w mw_161 d_AR_compare_74 ?_
      refine rVI (rest := [.ref (ad 5)]) hc w (c_CO_rd l E ad σ) kv_CO_rd mw_578 5 rfl rfl ⟨Nat.le_of_ble_eq_true rfl, Nat.le_of_ble_eq_true rfl⟩ hl.1 rfl (Nat.le_of_ble_eq_true rfl) ⟨Nat.zero_le _, Nat.zero_le _⟩ d_AR_compare_77 (fun H locs w => ?_)
      refine lv_iload_n hx hb d_AR_compare_80 rfl (lv_at hl 1 rfl) ?_
      refine lv_iload_n hx hb d_AR_compare_81 rfl (lv_at hl 0 rfl) ?_
      refine rSZ (rest := [.int (f_CO_rd σ), .ref (ad 5)]) hc w (c_AR_plainlyBelow l E ad σ (f_CO_s σ) (f_CO_t σ)) ks_AR_plainlyBelow mw_629 ⟨Nat.le_of_ble_eq_true rfl, Nat.le_of_ble_eq_true rfl⟩ hl.1 rfl (Nat.le_of_ble_eq_true rfl) ⟨Nat.zero_le _, Nat.zero_le _⟩ d_AR_compare_82 (fun H locs w => ?_)
      refine lv_if_eq (tgt := 92) hx hb d_AR_compare_85 (by decide) (fun q85 => ?_) (fun q85 => ?_)
      · refine lv_iconst (v := 0) hx hb d_AR_compare_92 (by decide) ?_
        exact J93 (f_CO_rd σ) false _ _ _ w (lv_sub hl [] rfl) (by rw [← e0, f_AR_compare, if_neg q17_0, if_pos q17_1, if_pos q85])
      · refine lv_iconst (v := 1) hx hb d_AR_compare_88 (by decide) ?_
        refine lv_goto (tgt := 93) hx hb d_AR_compare_89 (by decide) ?_
        exact J93 (f_CO_rd σ) true _ _ _ w (lv_sub hl [] rfl) (by rw [← e0, f_AR_compare, if_neg q17_0, if_pos q17_1, if_neg q85])
    · refine lv_lookup (tgt := 97) (off := 80) hx hb d_AR_compare_17 (by decide) (by have k0 := ne_k q17_0 (n := 42) (by decide); have k1 := ne_k q17_1 (n := 43) (by decide); simp [Op.lookupswitch.offset, k0, Ne.symm k0, k1, Ne.symm k1]) (by decide) ?_
      refine lv_bipush (v := 10) hx hb d_AR_compare_97 (by decide) ?_
      exact rt_i hc w d_AR_compare_99 (by rw [← e0, f_AR_compare, if_neg q17_0, if_neg q17_1] <;> rfl)
-- AR_trap
def f_AR_trap_62 (σ : XS) (a1 : Int32) (a2 : Int32) (w62_0 : Bool) : Int32 := f_FA_trapIf σ w62_0
def f_AR_trap_79 (σ : XS) (a1 : Int32) (a2 : Int32) (w79_0 : Bool) : Int32 := f_FA_trapIf σ w79_0
def f_AR_trap_93 (σ : XS) (a1 : Int32) (a2 : Int32) (w93_0 : Bool) : Int32 := f_FA_trapIf σ w93_0
def f_AR_trap_116 (σ : XS) (a1 : Int32) (a2 : Int32) (w116_0 : Bool) : Int32 := f_FA_trapIf σ w116_0
def f_AR_trap_130 (σ : XS) (a1 : Int32) (a2 : Int32) (w130_0 : Bool) : Int32 := f_FA_trapIf σ w130_0
def f_AR_trap (σ : XS) (a1 : Int32) (a2 : Int32) : Int32 := if a1 = (0 : Int32) then (if (f_CO_s σ) < a2 then (f_AR_trap_62 σ a1 a2 false) else (f_AR_trap_62 σ a1 a2 true)) else (if a1 = (1 : Int32) then (if (zb (f_AR_plainlyBelow σ (f_CO_s σ) a2)) = 0 then (f_AR_trap_79 σ a1 a2 true) else (f_AR_trap_79 σ a1 a2 false)) else (if a1 = (2 : Int32) then (if a2 ≤ (f_CO_s σ) then (f_AR_trap_93 σ a1 a2 false) else (f_AR_trap_93 σ a1 a2 true)) else (if a1 = (3 : Int32) then (f_FA_trapIf σ (f_AR_plainlyBelow σ (f_CO_s σ) a2)) else (if a1 = (4 : Int32) then (if (f_CO_s σ) = a2 then (f_AR_trap_116 σ a1 a2 true) else (f_AR_trap_116 σ a1 a2 false)) else (if a1 = (5 : Int32) then ((10 : Int32)) else (if a1 = (6 : Int32) then (if (f_CO_s σ) = a2 then (f_AR_trap_130 σ a1 a2 false) else (f_AR_trap_130 σ a1 a2 true)) else ((10 : Int32))))))))
theorem d_AR_trap_0 : decode b_AR_trap 0 = .ok (.aload_n 0, 1) := by decide +kernel
theorem d_AR_trap_1 : decode b_AR_trap 1 = .ok (.getfield 7, 3) := by decide +kernel
theorem d_AR_trap_4 : decode b_AR_trap 4 = .ok (.invokevirtual 56, 3) := by decide +kernel
theorem d_AR_trap_7 : decode b_AR_trap 7 = .ok (.istore_n 3, 1) := by decide +kernel
theorem d_AR_trap_8 : decode b_AR_trap 8 = .ok (.iload_n 1, 1) := by decide +kernel
theorem d_AR_trap_9 : decode b_AR_trap 9 = .ok (.tableswitch 125 0 6 #[43, 57, 74, 88, 97, 125, 111], 43) := by decide +kernel
theorem d_AR_trap_52 : decode b_AR_trap 52 = .ok (.iload_n 3, 1) := by decide +kernel
theorem d_AR_trap_53 : decode b_AR_trap 53 = .ok (.iload_n 2, 1) := by decide +kernel
theorem d_AR_trap_54 : decode b_AR_trap 54 = .ok (.if_icmp .lt 7, 3) := by decide +kernel
theorem d_AR_trap_57 : decode b_AR_trap 57 = .ok (.iconst 1, 1) := by decide +kernel
theorem d_AR_trap_58 : decode b_AR_trap 58 = .ok (.goto 4, 3) := by decide +kernel
theorem d_AR_trap_61 : decode b_AR_trap 61 = .ok (.iconst 0, 1) := by decide +kernel
theorem d_AR_trap_62 : decode b_AR_trap 62 = .ok (.invokestatic 99, 3) := by decide +kernel
theorem d_AR_trap_65 : decode b_AR_trap 65 = .ok (.ireturn, 1) := by decide +kernel
theorem d_AR_trap_66 : decode b_AR_trap 66 = .ok (.iload_n 3, 1) := by decide +kernel
theorem d_AR_trap_67 : decode b_AR_trap 67 = .ok (.iload_n 2, 1) := by decide +kernel
theorem d_AR_trap_68 : decode b_AR_trap 68 = .ok (.invokestatic 89, 3) := by decide +kernel
theorem d_AR_trap_71 : decode b_AR_trap 71 = .ok (.ifCond .ne 7, 3) := by decide +kernel
theorem d_AR_trap_74 : decode b_AR_trap 74 = .ok (.iconst 1, 1) := by decide +kernel
theorem d_AR_trap_75 : decode b_AR_trap 75 = .ok (.goto 4, 3) := by decide +kernel
theorem d_AR_trap_78 : decode b_AR_trap 78 = .ok (.iconst 0, 1) := by decide +kernel
theorem d_AR_trap_79 : decode b_AR_trap 79 = .ok (.invokestatic 99, 3) := by decide +kernel
theorem d_AR_trap_82 : decode b_AR_trap 82 = .ok (.ireturn, 1) := by decide +kernel
theorem d_AR_trap_83 : decode b_AR_trap 83 = .ok (.iload_n 3, 1) := by decide +kernel
theorem d_AR_trap_84 : decode b_AR_trap 84 = .ok (.iload_n 2, 1) := by decide +kernel
theorem d_AR_trap_85 : decode b_AR_trap 85 = .ok (.if_icmp .ge 7, 3) := by decide +kernel
theorem d_AR_trap_88 : decode b_AR_trap 88 = .ok (.iconst 1, 1) := by decide +kernel
theorem d_AR_trap_89 : decode b_AR_trap 89 = .ok (.goto 4, 3) := by decide +kernel
theorem d_AR_trap_92 : decode b_AR_trap 92 = .ok (.iconst 0, 1) := by decide +kernel
theorem d_AR_trap_93 : decode b_AR_trap 93 = .ok (.invokestatic 99, 3) := by decide +kernel
theorem d_AR_trap_96 : decode b_AR_trap 96 = .ok (.ireturn, 1) := by decide +kernel
theorem d_AR_trap_97 : decode b_AR_trap 97 = .ok (.iload_n 3, 1) := by decide +kernel
theorem d_AR_trap_98 : decode b_AR_trap 98 = .ok (.iload_n 2, 1) := by decide +kernel
theorem d_AR_trap_99 : decode b_AR_trap 99 = .ok (.invokestatic 89, 3) := by decide +kernel
theorem d_AR_trap_102 : decode b_AR_trap 102 = .ok (.invokestatic 99, 3) := by decide +kernel
theorem d_AR_trap_105 : decode b_AR_trap 105 = .ok (.ireturn, 1) := by decide +kernel
theorem d_AR_trap_106 : decode b_AR_trap 106 = .ok (.iload_n 3, 1) := by decide +kernel
theorem d_AR_trap_107 : decode b_AR_trap 107 = .ok (.iload_n 2, 1) := by decide +kernel
theorem d_AR_trap_108 : decode b_AR_trap 108 = .ok (.if_icmp .ne 7, 3) := by decide +kernel
theorem d_AR_trap_111 : decode b_AR_trap 111 = .ok (.iconst 1, 1) := by decide +kernel
theorem d_AR_trap_112 : decode b_AR_trap 112 = .ok (.goto 4, 3) := by decide +kernel
theorem d_AR_trap_115 : decode b_AR_trap 115 = .ok (.iconst 0, 1) := by decide +kernel
theorem d_AR_trap_116 : decode b_AR_trap 116 = .ok (.invokestatic 99, 3) := by decide +kernel
theorem d_AR_trap_119 : decode b_AR_trap 119 = .ok (.ireturn, 1) := by decide +kernel
theorem d_AR_trap_120 : decode b_AR_trap 120 = .ok (.iload_n 3, 1) := by decide +kernel
theorem d_AR_trap_121 : decode b_AR_trap 121 = .ok (.iload_n 2, 1) := by decide +kernel
theorem d_AR_trap_122 : decode b_AR_trap 122 = .ok (.if_icmp .eq 7, 3) := by decide +kernel
theorem d_AR_trap_125 : decode b_AR_trap 125 = .ok (.iconst 1, 1) := by decide +kernel
theorem d_AR_trap_126 : decode b_AR_trap 126 = .ok (.goto 4, 3) := by decide +kernel
theorem d_AR_trap_129 : decode b_AR_trap 129 = .ok (.iconst 0, 1) := by decide +kernel
theorem d_AR_trap_130 : decode b_AR_trap 130 = .ok (.invokestatic 99, 3) := by decide +kernel
theorem d_AR_trap_133 : decode b_AR_trap 133 = .ok (.ireturn, 1) := by decide +kernel
theorem d_AR_trap_134 : decode b_AR_trap 134 = .ok (.bipush 10, 2) := by decide +kernel
theorem d_AR_trap_136 : decode b_AR_trap 136 = .ok (.ireturn, 1) := by decide +kernel
set_option maxHeartbeats 4000000 in
set_option maxRecDepth 100000 in
theorem c_AR_trap (l : Launch) (E : Ev) (ad : Nat → Nat) (σ : XS) (a1 : Int32) (a2 : Int32) : rC xCl l E (xW E ad) y_AR_trap b_AR_trap 4 (Option.some Jvm.ClassFile.FieldType.int) (rmo 1 21) [.ref (ad 7), .int a1, .int a2] σ ((σ, some (Value.int (f_AR_trap σ a1 a2)))) := by
  refine rC.of (by decide) (Nat.le_of_ble_eq_true rfl) ?_
  intro p e s m below meth c A ls hc w hl
  generalize e0 : (σ, some (Value.int (f_AR_trap σ a1 a2))) = Z
  have hc : Cx xCl E A p s m ([.ref (ad 7), .int a1, .int a2] : List Value).toArray meth c b_AR_trap 4 (Option.some Jvm.ClassFile.FieldType.int) "PageMachine$Arithmetic" := hc
  have hx := hc.1
  have hb := hc.2.1
  have ho := hc.2.2.2.2.2.1
  have hT := hc.2.2.2.2.2.2.1
  have hl : lv_has ls 4 [(0, .ref (ad 7)), (1, .int a1), (2, .int a2)] := hl
  have J62 : ∀ (w62_0 : Bool) (H : Heap) (locs : List Loc) (ls : Array Slot), Wd xCl E A s.heap H locs (xW E ad σ) → lv_has ls 4 [] → (σ, some (Value.int (f_AR_trap_62 σ a1 a2 w62_0))) = Z → W p l e (rmo 1 21) s m ([.ref (ad 7), .int a1, .int a2] : List Value).toArray below meth c H locs 0 0 (MQ below (rQ xCl (xW E ad) E A Z) ([.ref (ad 7), .int a1, .int a2] : List Value).toArray s 0 0 A) (F0 m 62 ls [.int (zb w62_0)]) := by
    intro w62_0 H locs ls w hl e62
    refine rSI (rest := []) hc w (c_FA_trapIf l E ad σ w62_0) ks_FA_trapIf mw_637 ⟨Nat.le_of_ble_eq_true rfl, Nat.le_of_ble_eq_true rfl⟩ hl.1 rfl (Nat.le_of_ble_eq_true rfl) ⟨Nat.zero_le _, Nat.zero_le _⟩ d_AR_trap_62 (fun H locs w => ?_)
    exact rt_i hc w d_AR_trap_65 (by rw [← e62, f_AR_trap_62] <;> rfl)
  have J79 : ∀ (w79_0 : Bool) (H : Heap) (locs : List Loc) (ls : Array Slot), Wd xCl E A s.heap H locs (xW E ad σ) → lv_has ls 4 [] → (σ, some (Value.int (f_AR_trap_79 σ a1 a2 w79_0))) = Z → W p l e (rmo 1 21) s m ([.ref (ad 7), .int a1, .int a2] : List Value).toArray below meth c H locs 0 0 (MQ below (rQ xCl (xW E ad) E A Z) ([.ref (ad 7), .int a1, .int a2] : List Value).toArray s 0 0 A) (F0 m 79 ls [.int (zb w79_0)]) := by
    intro w79_0 H locs ls w hl e79
    refine rSI (rest := []) hc w (c_FA_trapIf l E ad σ w79_0) ks_FA_trapIf mw_637 ⟨Nat.le_of_ble_eq_true rfl, Nat.le_of_ble_eq_true rfl⟩ hl.1 rfl (Nat.le_of_ble_eq_true rfl) ⟨Nat.zero_le _, Nat.zero_le _⟩ d_AR_trap_79 (fun H locs w => ?_)
    exact rt_i hc w d_AR_trap_82 (by rw [← e79, f_AR_trap_79] <;> rfl)
  have J93 : ∀ (w93_0 : Bool) (H : Heap) (locs : List Loc) (ls : Array Slot), Wd xCl E A s.heap H locs (xW E ad σ) → lv_has ls 4 [] → (σ, some (Value.int (f_AR_trap_93 σ a1 a2 w93_0))) = Z → W p l e (rmo 1 21) s m ([.ref (ad 7), .int a1, .int a2] : List Value).toArray below meth c H locs 0 0 (MQ below (rQ xCl (xW E ad) E A Z) ([.ref (ad 7), .int a1, .int a2] : List Value).toArray s 0 0 A) (F0 m 93 ls [.int (zb w93_0)]) := by
    intro w93_0 H locs ls w hl e93
    refine rSI (rest := []) hc w (c_FA_trapIf l E ad σ w93_0) ks_FA_trapIf mw_637 ⟨Nat.le_of_ble_eq_true rfl, Nat.le_of_ble_eq_true rfl⟩ hl.1 rfl (Nat.le_of_ble_eq_true rfl) ⟨Nat.zero_le _, Nat.zero_le _⟩ d_AR_trap_93 (fun H locs w => ?_)
    exact rt_i hc w d_AR_trap_96 (by rw [← e93, f_AR_trap_93] <;> rfl)
  have J116 : ∀ (w116_0 : Bool) (H : Heap) (locs : List Loc) (ls : Array Slot), Wd xCl E A s.heap H locs (xW E ad σ) → lv_has ls 4 [] → (σ, some (Value.int (f_AR_trap_116 σ a1 a2 w116_0))) = Z → W p l e (rmo 1 21) s m ([.ref (ad 7), .int a1, .int a2] : List Value).toArray below meth c H locs 0 0 (MQ below (rQ xCl (xW E ad) E A Z) ([.ref (ad 7), .int a1, .int a2] : List Value).toArray s 0 0 A) (F0 m 116 ls [.int (zb w116_0)]) := by
    intro w116_0 H locs ls w hl e116
    refine rSI (rest := []) hc w (c_FA_trapIf l E ad σ w116_0) ks_FA_trapIf mw_637 ⟨Nat.le_of_ble_eq_true rfl, Nat.le_of_ble_eq_true rfl⟩ hl.1 rfl (Nat.le_of_ble_eq_true rfl) ⟨Nat.zero_le _, Nat.zero_le _⟩ d_AR_trap_116 (fun H locs w => ?_)
    exact rt_i hc w d_AR_trap_119 (by rw [← e116, f_AR_trap_116] <;> rfl)
  have J130 : ∀ (w130_0 : Bool) (H : Heap) (locs : List Loc) (ls : Array Slot), Wd xCl E A s.heap H locs (xW E ad σ) → lv_has ls 4 [] → (σ, some (Value.int (f_AR_trap_130 σ a1 a2 w130_0))) = Z → W p l e (rmo 1 21) s m ([.ref (ad 7), .int a1, .int a2] : List Value).toArray below meth c H locs 0 0 (MQ below (rQ xCl (xW E ad) E A Z) ([.ref (ad 7), .int a1, .int a2] : List Value).toArray s 0 0 A) (F0 m 130 ls [.int (zb w130_0)]) := by
    intro w130_0 H locs ls w hl e130
    refine rSI (rest := []) hc w (c_FA_trapIf l E ad σ w130_0) ks_FA_trapIf mw_637 ⟨Nat.le_of_ble_eq_true rfl, Nat.le_of_ble_eq_true rfl⟩ hl.1 rfl (Nat.le_of_ble_eq_true rfl) ⟨Nat.zero_le _, Nat.zero_le _⟩ d_AR_trap_130 (fun H locs w => ?_)
    exact rt_i hc w d_AR_trap_133 (by rw [← e130, f_AR_trap_130] <;> rfl)
  refine lv_aload_n hx hb d_AR_trap_0 rfl (lv_at hl 0 rfl) ?_
  refine g_AR_core hc w mw_161 d_AR_trap_1 ?_
  refine rVI (rest := []) hc w (c_CO_s l E ad σ) kv_CO_s mw_584 5 rfl rfl ⟨Nat.le_of_ble_eq_true rfl, Nat.le_of_ble_eq_true rfl⟩ hl.1 rfl (Nat.le_of_ble_eq_true rfl) ⟨Nat.zero_le _, Nat.zero_le _⟩ d_AR_trap_4 (fun H locs w => ?_)
  refine lv_istore_n (lv' := [(3, .int (f_CO_s σ)), (0, .ref (ad 7)), (1, .int a1), (2, .int a2)]) hx hb d_AR_trap_7 rfl hl (by decide) rfl (fun ls hl => ?_)
  refine lv_iload_n hx hb d_AR_trap_8 rfl (lv_at hl 2 rfl) ?_
  by_cases q9_0 : a1 = (0 : Int32)
  · refine lv_tableIn (tgt := 52) (off := 43) hx hb d_AR_trap_9 (by rw [q9_0]; decide) (by rw [q9_0]; decide) (by rw [q9_0]; rfl) (by decide) ?_
    refine lv_iload_n hx hb d_AR_trap_52 rfl (lv_at hl 0 rfl) ?_
    refine lv_iload_n hx hb d_AR_trap_53 rfl (lv_at hl 3 rfl) ?_
    refine lv_icmp_lt (tgt := 61) hx hb d_AR_trap_54 (by decide) (fun q54 => ?_) (fun q54 => ?_)
    · refine lv_iconst (v := 0) hx hb d_AR_trap_61 (by decide) ?_
      exact J62 false _ _ _ w (lv_sub hl [] rfl) (by rw [← e0, f_AR_trap, if_pos q9_0, if_pos q54])
    · refine lv_iconst (v := 1) hx hb d_AR_trap_57 (by decide) ?_
      refine lv_goto (tgt := 62) hx hb d_AR_trap_58 (by decide) ?_
      exact J62 true _ _ _ w (lv_sub hl [] rfl) (by rw [← e0, f_AR_trap, if_pos q9_0, if_neg q54])
  · by_cases q9_1 : a1 = (1 : Int32)
    · refine lv_tableIn (tgt := 66) (off := 57) hx hb d_AR_trap_9 (by rw [q9_1]; decide) (by rw [q9_1]; decide) (by rw [q9_1]; rfl) (by decide) ?_
      refine lv_iload_n hx hb d_AR_trap_66 rfl (lv_at hl 0 rfl) ?_
      refine lv_iload_n hx hb d_AR_trap_67 rfl (lv_at hl 3 rfl) ?_
      refine rSZ (rest := []) hc w (c_AR_plainlyBelow l E ad σ (f_CO_s σ) a2) ks_AR_plainlyBelow mw_629 ⟨Nat.le_of_ble_eq_true rfl, Nat.le_of_ble_eq_true rfl⟩ hl.1 rfl (Nat.le_of_ble_eq_true rfl) ⟨Nat.zero_le _, Nat.zero_le _⟩ d_AR_trap_68 (fun H locs w => ?_)
      refine lv_if_ne (tgt := 78) hx hb d_AR_trap_71 (by decide) (fun q71 => ?_) (fun q71 => ?_)
      · refine lv_iconst (v := 0) hx hb d_AR_trap_78 (by decide) ?_
        exact J79 false _ _ _ w (lv_sub hl [] rfl) (by rw [← e0, f_AR_trap, if_neg q9_0, if_pos q9_1, if_neg q71])
      · refine lv_iconst (v := 1) hx hb d_AR_trap_74 (by decide) ?_
        refine lv_goto (tgt := 79) hx hb d_AR_trap_75 (by decide) ?_
        exact J79 true _ _ _ w (lv_sub hl [] rfl) (by rw [← e0, f_AR_trap, if_neg q9_0, if_pos q9_1, if_pos q71])
    · by_cases q9_2 : a1 = (2 : Int32)
      · refine lv_tableIn (tgt := 83) (off := 74) hx hb d_AR_trap_9 (by rw [q9_2]; decide) (by rw [q9_2]; decide) (by rw [q9_2]; rfl) (by decide) ?_
        refine lv_iload_n hx hb d_AR_trap_83 rfl (lv_at hl 0 rfl) ?_
        refine lv_iload_n hx hb d_AR_trap_84 rfl (lv_at hl 3 rfl) ?_
        refine lv_icmp_ge (tgt := 92) hx hb d_AR_trap_85 (by decide) (fun q85 => ?_) (fun q85 => ?_)
        · refine lv_iconst (v := 0) hx hb d_AR_trap_92 (by decide) ?_
          exact J93 false _ _ _ w (lv_sub hl [] rfl) (by rw [← e0, f_AR_trap, if_neg q9_0, if_neg q9_1, if_pos q9_2, if_pos q85])
        · refine lv_iconst (v := 1) hx hb d_AR_trap_88 (by decide) ?_
          refine lv_goto (tgt := 93) hx hb d_AR_trap_89 (by decide) ?_
          exact J93 true _ _ _ w (lv_sub hl [] rfl) (by rw [← e0, f_AR_trap, if_neg q9_0, if_neg q9_1, if_pos q9_2, if_neg q85])
      · by_cases q9_3 : a1 = (3 : Int32)
        · refine lv_tableIn (tgt := 97) (off := 88) hx hb d_AR_trap_9 (by rw [q9_3]; decide) (by rw [q9_3]; decide) (by rw [q9_3]; rfl) (by decide) ?_
          refine lv_iload_n hx hb d_AR_trap_97 rfl (lv_at hl 0 rfl) ?_
          refine lv_iload_n hx hb d_AR_trap_98 rfl (lv_at hl 3 rfl) ?_
          refine rSZ (rest := []) hc w (c_AR_plainlyBelow l E ad σ (f_CO_s σ) a2) ks_AR_plainlyBelow mw_629 ⟨Nat.le_of_ble_eq_true rfl, Nat.le_of_ble_eq_true rfl⟩ hl.1 rfl (Nat.le_of_ble_eq_true rfl) ⟨Nat.zero_le _, Nat.zero_le _⟩ d_AR_trap_99 (fun H locs w => ?_)
          refine rSI (rest := []) hc w (c_FA_trapIf l E ad σ (f_AR_plainlyBelow σ (f_CO_s σ) a2)) ks_FA_trapIf mw_637 ⟨Nat.le_of_ble_eq_true rfl, Nat.le_of_ble_eq_true rfl⟩ hl.1 rfl (Nat.le_of_ble_eq_true rfl) ⟨Nat.zero_le _, Nat.zero_le _⟩ d_AR_trap_102 (fun H locs w => ?_)
          exact rt_i hc w d_AR_trap_105 (by rw [← e0, f_AR_trap, if_neg q9_0, if_neg q9_1, if_neg q9_2, if_pos q9_3] <;> rfl)
        · by_cases q9_4 : a1 = (4 : Int32)
          · refine lv_tableIn (tgt := 106) (off := 97) hx hb d_AR_trap_9 (by rw [q9_4]; decide) (by rw [q9_4]; decide) (by rw [q9_4]; rfl) (by decide) ?_
            refine lv_iload_n hx hb d_AR_trap_106 rfl (lv_at hl 0 rfl) ?_
            refine lv_iload_n hx hb d_AR_trap_107 rfl (lv_at hl 3 rfl) ?_
            refine lv_icmp_ne (tgt := 115) hx hb d_AR_trap_108 (by decide) (fun q108 => ?_) (fun q108 => ?_)
            · refine lv_iconst (v := 0) hx hb d_AR_trap_115 (by decide) ?_
              exact J116 false _ _ _ w (lv_sub hl [] rfl) (by rw [← e0, f_AR_trap, if_neg q9_0, if_neg q9_1, if_neg q9_2, if_neg q9_3, if_pos q9_4, if_neg q108])
            · refine lv_iconst (v := 1) hx hb d_AR_trap_111 (by decide) ?_
              refine lv_goto (tgt := 116) hx hb d_AR_trap_112 (by decide) ?_
              exact J116 true _ _ _ w (lv_sub hl [] rfl) (by rw [← e0, f_AR_trap, if_neg q9_0, if_neg q9_1, if_neg q9_2, if_neg q9_3, if_pos q9_4, if_pos q108])
          · by_cases q9_5 : a1 = (5 : Int32)
            · refine lv_tableIn (tgt := 134) (off := 125) hx hb d_AR_trap_9 (by rw [q9_5]; decide) (by rw [q9_5]; decide) (by rw [q9_5]; rfl) (by decide) ?_
              refine lv_bipush (v := 10) hx hb d_AR_trap_134 (by decide) ?_
              exact rt_i hc w d_AR_trap_136 (by rw [← e0, f_AR_trap, if_neg q9_0, if_neg q9_1, if_neg q9_2, if_neg q9_3, if_neg q9_4, if_pos q9_5] <;> rfl)
            · by_cases q9_6 : a1 = (6 : Int32)
              · refine lv_tableIn (tgt := 120) (off := 111) hx hb d_AR_trap_9 (by rw [q9_6]; decide) (by rw [q9_6]; decide) (by rw [q9_6]; rfl) (by decide) ?_
                refine lv_iload_n hx hb d_AR_trap_120 rfl (lv_at hl 0 rfl) ?_
                refine lv_iload_n hx hb d_AR_trap_121 rfl (lv_at hl 3 rfl) ?_
                refine lv_icmp_eq (tgt := 129) hx hb d_AR_trap_122 (by decide) (fun q122 => ?_) (fun q122 => ?_)
                · refine lv_iconst (v := 0) hx hb d_AR_trap_129 (by decide) ?_
                  exact J130 false _ _ _ w (lv_sub hl [] rfl) (by rw [← e0, f_AR_trap, if_neg q9_0, if_neg q9_1, if_neg q9_2, if_neg q9_3, if_neg q9_4, if_neg q9_5, if_pos q9_6, if_pos q122])
                · refine lv_iconst (v := 1) hx hb d_AR_trap_125 (by decide) ?_
                  refine lv_goto (tgt := 130) hx hb d_AR_trap_126 (by decide) ?_
                  exact J130 true _ _ _ w (lv_sub hl [] rfl) (by rw [← e0, f_AR_trap, if_neg q9_0, if_neg q9_1, if_neg q9_2, if_neg q9_3, if_neg q9_4, if_neg q9_5, if_pos q9_6, if_neg q122])
              · refine lv_tableOut (tgt := 134) hx hb d_AR_trap_9 (by have k0 := ne_k q9_0 (n := 0) (by decide); have k1 := ne_k q9_1 (n := 1) (by decide); have k2 := ne_k q9_2 (n := 2) (by decide); have k3 := ne_k q9_3 (n := 3) (by decide); have k4 := ne_k q9_4 (n := 4) (by decide); have k5 := ne_k q9_5 (n := 5) (by decide); have k6 := ne_k q9_6 (n := 6) (by decide); omega) (by decide) ?_
                refine lv_bipush (v := 10) hx hb d_AR_trap_134 (by decide) ?_
                exact rt_i hc w d_AR_trap_136 (by rw [← e0, f_AR_trap, if_neg q9_0, if_neg q9_1, if_neg q9_2, if_neg q9_3, if_neg q9_4, if_neg q9_5, if_neg q9_6] <;> rfl)
-- AR_trapImmediate
def f_AR_trapImmediate (σ : XS) : Int32 := f_AR_trap σ ((f_CO_rt σ) &&& (7 : Int32)) (f_CO_signedImmediate σ)
theorem d_AR_trapImmediate_0 : decode b_AR_trapImmediate 0 = .ok (.aload_n 0, 1) := by decide +kernel
theorem d_AR_trapImmediate_1 : decode b_AR_trapImmediate 1 = .ok (.aload_n 0, 1) := by decide +kernel
theorem d_AR_trapImmediate_2 : decode b_AR_trapImmediate 2 = .ok (.getfield 7, 3) := by decide +kernel
theorem d_AR_trapImmediate_5 : decode b_AR_trapImmediate 5 = .ok (.invokevirtual 93, 3) := by decide +kernel
theorem d_AR_trapImmediate_8 : decode b_AR_trapImmediate 8 = .ok (.bipush 7, 2) := by decide +kernel
theorem d_AR_trapImmediate_10 : decode b_AR_trapImmediate 10 = .ok (.iand, 1) := by decide +kernel
theorem d_AR_trapImmediate_11 : decode b_AR_trapImmediate 11 = .ok (.aload_n 0, 1) := by decide +kernel
theorem d_AR_trapImmediate_12 : decode b_AR_trapImmediate 12 = .ok (.getfield 7, 3) := by decide +kernel
theorem d_AR_trapImmediate_15 : decode b_AR_trapImmediate 15 = .ok (.invokevirtual 96, 3) := by decide +kernel
theorem d_AR_trapImmediate_18 : decode b_AR_trapImmediate 18 = .ok (.invokevirtual 41, 3) := by decide +kernel
theorem d_AR_trapImmediate_21 : decode b_AR_trapImmediate 21 = .ok (.ireturn, 1) := by decide +kernel
set_option maxHeartbeats 4000000 in
set_option maxRecDepth 100000 in
theorem c_AR_trapImmediate (l : Launch) (E : Ev) (ad : Nat → Nat) (σ : XS) : rC xCl l E (xW E ad) y_AR_trapImmediate b_AR_trapImmediate 1 (Option.some Jvm.ClassFile.FieldType.int) (rmo 2 44) [.ref (ad 7)] σ ((σ, some (Value.int (f_AR_trapImmediate σ)))) := by
  refine rC.of (by decide) (Nat.le_of_ble_eq_true rfl) ?_
  intro p e s m below meth c A ls hc w hl
  generalize e0 : (σ, some (Value.int (f_AR_trapImmediate σ))) = Z
  have hc : Cx xCl E A p s m ([.ref (ad 7)] : List Value).toArray meth c b_AR_trapImmediate 1 (Option.some Jvm.ClassFile.FieldType.int) "PageMachine$Arithmetic" := hc
  have hx := hc.1
  have hb := hc.2.1
  have ho := hc.2.2.2.2.2.1
  have hT := hc.2.2.2.2.2.2.1
  have hl : lv_has ls 1 [(0, .ref (ad 7))] := hl
  refine lv_aload_n hx hb d_AR_trapImmediate_0 rfl (lv_at hl 0 rfl) ?_
  refine lv_aload_n hx hb d_AR_trapImmediate_1 rfl (lv_at hl 0 rfl) ?_
  refine g_AR_core hc w mw_161 d_AR_trapImmediate_2 ?_
  refine rVI (rest := [.ref (ad 7)]) hc w (c_CO_rt l E ad σ) kv_CO_rt mw_669 5 rfl rfl ⟨Nat.le_of_ble_eq_true rfl, Nat.le_of_ble_eq_true rfl⟩ hl.1 rfl (Nat.le_of_ble_eq_true rfl) ⟨Nat.zero_le _, Nat.zero_le _⟩ d_AR_trapImmediate_5 (fun H locs w => ?_)
  refine lv_bipush (v := 7) hx hb d_AR_trapImmediate_8 (by decide) ?_
  refine lv_iand hx hb d_AR_trapImmediate_10 ?_
  refine lv_aload_n hx hb d_AR_trapImmediate_11 rfl (lv_at hl 0 rfl) ?_
  refine g_AR_core hc w mw_161 d_AR_trapImmediate_12 ?_
  refine rVI (rest := [.int ((f_CO_rt σ) &&& (7 : Int32)), .ref (ad 7)]) hc w (c_CO_signedImmediate l E ad σ) kv_CO_signedImmediate mw_670 5 rfl rfl ⟨Nat.le_of_ble_eq_true rfl, Nat.le_of_ble_eq_true rfl⟩ hl.1 rfl (Nat.le_of_ble_eq_true rfl) ⟨Nat.zero_le _, Nat.zero_le _⟩ d_AR_trapImmediate_15 (fun H locs w => ?_)
  refine rVI (rest := []) hc w (c_AR_trap l E ad σ ((f_CO_rt σ) &&& (7 : Int32)) (f_CO_signedImmediate σ)) kv_AR_trap mw_633 7 rfl rfl ⟨Nat.le_of_ble_eq_true rfl, Nat.le_of_ble_eq_true rfl⟩ hl.1 rfl (Nat.le_of_ble_eq_true rfl) ⟨Nat.zero_le _, Nat.zero_le _⟩ d_AR_trapImmediate_18 (fun H locs w => ?_)
  exact rt_i hc w d_AR_trapImmediate_21 (by rw [← e0, f_AR_trapImmediate] <;> rfl)
-- AR_performOp0
def f_AR_performOp0_c6 (z84 : XS × Int32)   : XS × Int32 := (z84.1, z84.2)
def f_AR_performOp0_c5 (z78 : XS × Int32)   : XS × Int32 := (z78.1, z78.2)
def f_AR_performOp0_c4 (z72 : XS × Int32)   : XS × Int32 := (z72.1, z72.2)
def f_AR_performOp0_c3 (z66 : XS × Int32)   : XS × Int32 := (z66.1, z66.2)
def f_AR_performOp0_c2 (z60 : XS × Int32)   : XS × Int32 := (z60.1, z60.2)
def f_AR_performOp0_c1 (z54 : XS × Int32)   : XS × Int32 := (z54.1, z54.2)
def f_AR_performOp0 (σ : XS) : XS × Int32 := if ((Int32.toUInt32 (f_CO_fn σ) >>> (Int32.toUInt32 (3 : Int32) &&& Int32.toUInt32 31)).toInt32) = (0 : Int32) then (f_AR_performOp0_c1 (f_AR_shift σ (f_CO_fn σ))  ) else (if ((Int32.toUInt32 (f_CO_fn σ) >>> (Int32.toUInt32 (3 : Int32) &&& Int32.toUInt32 31)).toInt32) = (1 : Int32) then (f_AR_performOp0_c2 (f_AR_moveOrCall σ (f_CO_fn σ))  ) else (if ((Int32.toUInt32 (f_CO_fn σ) >>> (Int32.toUInt32 (3 : Int32) &&& Int32.toUInt32 31)).toInt32) = (2 : Int32) then (f_AR_performOp0_c3 (f_AR_moveHiLo σ (f_CO_fn σ))  ) else (if ((Int32.toUInt32 (f_CO_fn σ) >>> (Int32.toUInt32 (3 : Int32) &&& Int32.toUInt32 31)).toInt32) = (3 : Int32) then (f_AR_performOp0_c4 (f_AR_multiplyOrDivide σ (f_CO_fn σ))  ) else (if ((Int32.toUInt32 (f_CO_fn σ) >>> (Int32.toUInt32 (3 : Int32) &&& Int32.toUInt32 31)).toInt32) = (4 : Int32) then (f_AR_performOp0_c5 (f_AR_addOrCombine σ (f_CO_fn σ))  ) else (if ((Int32.toUInt32 (f_CO_fn σ) >>> (Int32.toUInt32 (3 : Int32) &&& Int32.toUInt32 31)).toInt32) = (5 : Int32) then (f_AR_performOp0_c6 (f_AR_compare σ (f_CO_fn σ))  ) else (if ((Int32.toUInt32 (f_CO_fn σ) >>> (Int32.toUInt32 (3 : Int32) &&& Int32.toUInt32 31)).toInt32) = (6 : Int32) then ((σ, f_AR_trap σ ((f_CO_fn σ) &&& (7 : Int32)) (f_CO_t σ))) else ((σ, (10 : Int32)))))))))
theorem d_AR_performOp0_0 : decode b_AR_performOp0 0 = .ok (.aload_n 0, 1) := by decide +kernel
theorem d_AR_performOp0_1 : decode b_AR_performOp0 1 = .ok (.getfield 7, 3) := by decide +kernel
theorem d_AR_performOp0_4 : decode b_AR_performOp0 4 = .ok (.invokevirtual 13, 3) := by decide +kernel
theorem d_AR_performOp0_7 : decode b_AR_performOp0 7 = .ok (.istore_n 1, 1) := by decide +kernel
theorem d_AR_performOp0_8 : decode b_AR_performOp0 8 = .ok (.iload_n 1, 1) := by decide +kernel
theorem d_AR_performOp0_9 : decode b_AR_performOp0 9 = .ok (.iconst 3, 1) := by decide +kernel
theorem d_AR_performOp0_10 : decode b_AR_performOp0 10 = .ok (.iushr, 1) := by decide +kernel
theorem d_AR_performOp0_11 : decode b_AR_performOp0 11 = .ok (.tableswitch 93 0 6 #[41, 47, 53, 59, 65, 71, 77], 41) := by decide +kernel
theorem d_AR_performOp0_52 : decode b_AR_performOp0 52 = .ok (.aload_n 0, 1) := by decide +kernel
theorem d_AR_performOp0_53 : decode b_AR_performOp0 53 = .ok (.iload_n 1, 1) := by decide +kernel
theorem d_AR_performOp0_54 : decode b_AR_performOp0 54 = .ok (.invokevirtual 19, 3) := by decide +kernel
theorem d_AR_performOp0_57 : decode b_AR_performOp0 57 = .ok (.ireturn, 1) := by decide +kernel
theorem d_AR_performOp0_58 : decode b_AR_performOp0 58 = .ok (.aload_n 0, 1) := by decide +kernel
theorem d_AR_performOp0_59 : decode b_AR_performOp0 59 = .ok (.iload_n 1, 1) := by decide +kernel
theorem d_AR_performOp0_60 : decode b_AR_performOp0 60 = .ok (.invokevirtual 23, 3) := by decide +kernel
theorem d_AR_performOp0_63 : decode b_AR_performOp0 63 = .ok (.ireturn, 1) := by decide +kernel
theorem d_AR_performOp0_64 : decode b_AR_performOp0 64 = .ok (.aload_n 0, 1) := by decide +kernel
theorem d_AR_performOp0_65 : decode b_AR_performOp0 65 = .ok (.iload_n 1, 1) := by decide +kernel
theorem d_AR_performOp0_66 : decode b_AR_performOp0 66 = .ok (.invokevirtual 26, 3) := by decide +kernel
theorem d_AR_performOp0_69 : decode b_AR_performOp0 69 = .ok (.ireturn, 1) := by decide +kernel
theorem d_AR_performOp0_70 : decode b_AR_performOp0 70 = .ok (.aload_n 0, 1) := by decide +kernel
theorem d_AR_performOp0_71 : decode b_AR_performOp0 71 = .ok (.iload_n 1, 1) := by decide +kernel
theorem d_AR_performOp0_72 : decode b_AR_performOp0 72 = .ok (.invokevirtual 29, 3) := by decide +kernel
theorem d_AR_performOp0_75 : decode b_AR_performOp0 75 = .ok (.ireturn, 1) := by decide +kernel
theorem d_AR_performOp0_76 : decode b_AR_performOp0 76 = .ok (.aload_n 0, 1) := by decide +kernel
theorem d_AR_performOp0_77 : decode b_AR_performOp0 77 = .ok (.iload_n 1, 1) := by decide +kernel
theorem d_AR_performOp0_78 : decode b_AR_performOp0 78 = .ok (.invokevirtual 32, 3) := by decide +kernel
theorem d_AR_performOp0_81 : decode b_AR_performOp0 81 = .ok (.ireturn, 1) := by decide +kernel
theorem d_AR_performOp0_82 : decode b_AR_performOp0 82 = .ok (.aload_n 0, 1) := by decide +kernel
theorem d_AR_performOp0_83 : decode b_AR_performOp0 83 = .ok (.iload_n 1, 1) := by decide +kernel
theorem d_AR_performOp0_84 : decode b_AR_performOp0 84 = .ok (.invokevirtual 35, 3) := by decide +kernel
theorem d_AR_performOp0_87 : decode b_AR_performOp0 87 = .ok (.ireturn, 1) := by decide +kernel
theorem d_AR_performOp0_88 : decode b_AR_performOp0 88 = .ok (.aload_n 0, 1) := by decide +kernel
theorem d_AR_performOp0_89 : decode b_AR_performOp0 89 = .ok (.iload_n 1, 1) := by decide +kernel
theorem d_AR_performOp0_90 : decode b_AR_performOp0 90 = .ok (.bipush 7, 2) := by decide +kernel
theorem d_AR_performOp0_92 : decode b_AR_performOp0 92 = .ok (.iand, 1) := by decide +kernel
theorem d_AR_performOp0_93 : decode b_AR_performOp0 93 = .ok (.aload_n 0, 1) := by decide +kernel
theorem d_AR_performOp0_94 : decode b_AR_performOp0 94 = .ok (.getfield 7, 3) := by decide +kernel
theorem d_AR_performOp0_97 : decode b_AR_performOp0 97 = .ok (.invokevirtual 38, 3) := by decide +kernel
theorem d_AR_performOp0_100 : decode b_AR_performOp0 100 = .ok (.invokevirtual 41, 3) := by decide +kernel
theorem d_AR_performOp0_103 : decode b_AR_performOp0 103 = .ok (.ireturn, 1) := by decide +kernel
theorem d_AR_performOp0_104 : decode b_AR_performOp0 104 = .ok (.bipush 10, 2) := by decide +kernel
theorem d_AR_performOp0_106 : decode b_AR_performOp0 106 = .ok (.ireturn, 1) := by decide +kernel
set_option maxHeartbeats 4000000 in
set_option maxRecDepth 100000 in
theorem c_AR_performOp0 (l : Launch) (E : Ev) (ad : Nat → Nat) (σ : XS) : rC xCl l E (xW E ad) y_AR_performOp0 b_AR_performOp0 2 (Option.some Jvm.ClassFile.FieldType.int) (rmo 3 69) [.ref (ad 7)] σ (zI (f_AR_performOp0 σ)) := by
  refine rC.of (by decide) (Nat.le_of_ble_eq_true rfl) ?_
  intro p e s m below meth c A ls hc w hl
  generalize e0 : zI (f_AR_performOp0 σ) = Z
  have hc : Cx xCl E A p s m ([.ref (ad 7)] : List Value).toArray meth c b_AR_performOp0 2 (Option.some Jvm.ClassFile.FieldType.int) "PageMachine$Arithmetic" := hc
  have hx := hc.1
  have hb := hc.2.1
  have ho := hc.2.2.2.2.2.1
  have hT := hc.2.2.2.2.2.2.1
  have hl : lv_has ls 2 [(0, .ref (ad 7))] := hl
  refine lv_aload_n hx hb d_AR_performOp0_0 rfl (lv_at hl 0 rfl) ?_
  refine g_AR_core hc w mw_161 d_AR_performOp0_1 ?_
  refine rVI (rest := []) hc w (c_CO_fn l E ad σ) kv_CO_fn mw_569 5 rfl rfl ⟨Nat.le_of_ble_eq_true rfl, Nat.le_of_ble_eq_true rfl⟩ hl.1 rfl (Nat.le_of_ble_eq_true rfl) ⟨Nat.zero_le _, Nat.zero_le _⟩ d_AR_performOp0_4 (fun H locs w => ?_)
  refine lv_istore_n (lv' := [(1, .int (f_CO_fn σ)), (0, .ref (ad 7))]) hx hb d_AR_performOp0_7 rfl hl (by decide) rfl (fun ls hl => ?_)
  refine lv_iload_n hx hb d_AR_performOp0_8 rfl (lv_at hl 0 rfl) ?_
  refine lv_iconst (v := 3) hx hb d_AR_performOp0_9 (by decide) ?_
  refine lv_iushr hx hb d_AR_performOp0_10 rfl ?_
  by_cases q11_0 : ((Int32.toUInt32 (f_CO_fn σ) >>> (Int32.toUInt32 (3 : Int32) &&& Int32.toUInt32 31)).toInt32) = (0 : Int32)
  · refine lv_tableIn (tgt := 52) (off := 41) hx hb d_AR_performOp0_11 (by rw [q11_0]; decide) (by rw [q11_0]; decide) (by rw [q11_0]; rfl) (by decide) ?_
    refine lv_aload_n hx hb d_AR_performOp0_52 rfl (lv_at hl 1 rfl) ?_
    refine lv_iload_n hx hb d_AR_performOp0_53 rfl (lv_at hl 0 rfl) ?_
    refine cVI (rest := []) hc w (c_AR_shift l E ad σ (f_CO_fn σ)) kv_AR_shift mw_570 7 rfl rfl ⟨Nat.le_of_ble_eq_true rfl, Nat.le_of_ble_eq_true rfl⟩ hl.1 rfl (Nat.le_of_ble_eq_true rfl) ⟨Nat.zero_le _, Nat.zero_le _⟩ d_AR_performOp0_54 (fun z54 H locs hs54 w => ?_)
    have e_c1 : zI (f_AR_performOp0_c1 z54  ) = Z := by rw [← e0, f_AR_performOp0, if_pos q11_0, hs54]
    exact rt_i hc w d_AR_performOp0_57 (by rw [← e_c1, f_AR_performOp0_c1] <;> rfl)
  · by_cases q11_1 : ((Int32.toUInt32 (f_CO_fn σ) >>> (Int32.toUInt32 (3 : Int32) &&& Int32.toUInt32 31)).toInt32) = (1 : Int32)
    · refine lv_tableIn (tgt := 58) (off := 47) hx hb d_AR_performOp0_11 (by rw [q11_1]; decide) (by rw [q11_1]; decide) (by rw [q11_1]; rfl) (by decide) ?_
      refine lv_aload_n hx hb d_AR_performOp0_58 rfl (lv_at hl 1 rfl) ?_
      refine lv_iload_n hx hb d_AR_performOp0_59 rfl (lv_at hl 0 rfl) ?_
      refine cVI (rest := []) hc w (c_AR_moveOrCall l E ad σ (f_CO_fn σ)) kv_AR_moveOrCall mw_585 7 rfl rfl ⟨Nat.le_of_ble_eq_true rfl, Nat.le_of_ble_eq_true rfl⟩ hl.1 rfl (Nat.le_of_ble_eq_true rfl) ⟨Nat.zero_le _, Nat.zero_le _⟩ d_AR_performOp0_60 (fun z60 H locs hs60 w => ?_)
      have e_c2 : zI (f_AR_performOp0_c2 z60  ) = Z := by rw [← e0, f_AR_performOp0, if_neg q11_0, if_pos q11_1, hs60]
      exact rt_i hc w d_AR_performOp0_63 (by rw [← e_c2, f_AR_performOp0_c2] <;> rfl)
    · by_cases q11_2 : ((Int32.toUInt32 (f_CO_fn σ) >>> (Int32.toUInt32 (3 : Int32) &&& Int32.toUInt32 31)).toInt32) = (2 : Int32)
      · refine lv_tableIn (tgt := 64) (off := 53) hx hb d_AR_performOp0_11 (by rw [q11_2]; decide) (by rw [q11_2]; decide) (by rw [q11_2]; rfl) (by decide) ?_
        refine lv_aload_n hx hb d_AR_performOp0_64 rfl (lv_at hl 1 rfl) ?_
        refine lv_iload_n hx hb d_AR_performOp0_65 rfl (lv_at hl 0 rfl) ?_
        refine cVI (rest := []) hc w (c_AR_moveHiLo l E ad σ (f_CO_fn σ)) kv_AR_moveHiLo mw_589 7 rfl rfl ⟨Nat.le_of_ble_eq_true rfl, Nat.le_of_ble_eq_true rfl⟩ hl.1 rfl (Nat.le_of_ble_eq_true rfl) ⟨Nat.zero_le _, Nat.zero_le _⟩ d_AR_performOp0_66 (fun z66 H locs hs66 w => ?_)
        have e_c3 : zI (f_AR_performOp0_c3 z66  ) = Z := by rw [← e0, f_AR_performOp0, if_neg q11_0, if_neg q11_1, if_pos q11_2, hs66]
        exact rt_i hc w d_AR_performOp0_69 (by rw [← e_c3, f_AR_performOp0_c3] <;> rfl)
      · by_cases q11_3 : ((Int32.toUInt32 (f_CO_fn σ) >>> (Int32.toUInt32 (3 : Int32) &&& Int32.toUInt32 31)).toInt32) = (3 : Int32)
        · refine lv_tableIn (tgt := 70) (off := 59) hx hb d_AR_performOp0_11 (by rw [q11_3]; decide) (by rw [q11_3]; decide) (by rw [q11_3]; rfl) (by decide) ?_
          refine lv_aload_n hx hb d_AR_performOp0_70 rfl (lv_at hl 1 rfl) ?_
          refine lv_iload_n hx hb d_AR_performOp0_71 rfl (lv_at hl 0 rfl) ?_
          refine cVI (rest := []) hc w (c_AR_multiplyOrDivide l E ad σ (f_CO_fn σ)) kv_AR_multiplyOrDivide mw_593 7 rfl rfl ⟨Nat.le_of_ble_eq_true rfl, Nat.le_of_ble_eq_true rfl⟩ hl.1 rfl (Nat.le_of_ble_eq_true rfl) ⟨Nat.zero_le _, Nat.zero_le _⟩ d_AR_performOp0_72 (fun z72 H locs hs72 w => ?_)
          have e_c4 : zI (f_AR_performOp0_c4 z72  ) = Z := by rw [← e0, f_AR_performOp0, if_neg q11_0, if_neg q11_1, if_neg q11_2, if_pos q11_3, hs72]
          exact rt_i hc w d_AR_performOp0_75 (by rw [← e_c4, f_AR_performOp0_c4] <;> rfl)
        · by_cases q11_4 : ((Int32.toUInt32 (f_CO_fn σ) >>> (Int32.toUInt32 (3 : Int32) &&& Int32.toUInt32 31)).toInt32) = (4 : Int32)
          · refine lv_tableIn (tgt := 76) (off := 65) hx hb d_AR_performOp0_11 (by rw [q11_4]; decide) (by rw [q11_4]; decide) (by rw [q11_4]; rfl) (by decide) ?_
            refine lv_aload_n hx hb d_AR_performOp0_76 rfl (lv_at hl 1 rfl) ?_
            refine lv_iload_n hx hb d_AR_performOp0_77 rfl (lv_at hl 0 rfl) ?_
            refine cVI (rest := []) hc w (c_AR_addOrCombine l E ad σ (f_CO_fn σ)) kv_AR_addOrCombine mw_617 7 rfl rfl ⟨Nat.le_of_ble_eq_true rfl, Nat.le_of_ble_eq_true rfl⟩ hl.1 rfl (Nat.le_of_ble_eq_true rfl) ⟨Nat.zero_le _, Nat.zero_le _⟩ d_AR_performOp0_78 (fun z78 H locs hs78 w => ?_)
            have e_c5 : zI (f_AR_performOp0_c5 z78  ) = Z := by rw [← e0, f_AR_performOp0, if_neg q11_0, if_neg q11_1, if_neg q11_2, if_neg q11_3, if_pos q11_4, hs78]
            exact rt_i hc w d_AR_performOp0_81 (by rw [← e_c5, f_AR_performOp0_c5] <;> rfl)
          · by_cases q11_5 : ((Int32.toUInt32 (f_CO_fn σ) >>> (Int32.toUInt32 (3 : Int32) &&& Int32.toUInt32 31)).toInt32) = (5 : Int32)
            · refine lv_tableIn (tgt := 82) (off := 71) hx hb d_AR_performOp0_11 (by rw [q11_5]; decide) (by rw [q11_5]; decide) (by rw [q11_5]; rfl) (by decide) ?_
              refine lv_aload_n hx hb d_AR_performOp0_82 rfl (lv_at hl 1 rfl) ?_
              refine lv_iload_n hx hb d_AR_performOp0_83 rfl (lv_at hl 0 rfl) ?_
              refine cVI (rest := []) hc w (c_AR_compare l E ad σ (f_CO_fn σ)) kv_AR_compare mw_625 7 rfl rfl ⟨Nat.le_of_ble_eq_true rfl, Nat.le_of_ble_eq_true rfl⟩ hl.1 rfl (Nat.le_of_ble_eq_true rfl) ⟨Nat.zero_le _, Nat.zero_le _⟩ d_AR_performOp0_84 (fun z84 H locs hs84 w => ?_)
              have e_c6 : zI (f_AR_performOp0_c6 z84  ) = Z := by rw [← e0, f_AR_performOp0, if_neg q11_0, if_neg q11_1, if_neg q11_2, if_neg q11_3, if_neg q11_4, if_pos q11_5, hs84]
              exact rt_i hc w d_AR_performOp0_87 (by rw [← e_c6, f_AR_performOp0_c6] <;> rfl)
            · by_cases q11_6 : ((Int32.toUInt32 (f_CO_fn σ) >>> (Int32.toUInt32 (3 : Int32) &&& Int32.toUInt32 31)).toInt32) = (6 : Int32)
              · refine lv_tableIn (tgt := 88) (off := 77) hx hb d_AR_performOp0_11 (by rw [q11_6]; decide) (by rw [q11_6]; decide) (by rw [q11_6]; rfl) (by decide) ?_
                refine lv_aload_n hx hb d_AR_performOp0_88 rfl (lv_at hl 1 rfl) ?_
                refine lv_iload_n hx hb d_AR_performOp0_89 rfl (lv_at hl 0 rfl) ?_
                refine lv_bipush (v := 7) hx hb d_AR_performOp0_90 (by decide) ?_
                refine lv_iand hx hb d_AR_performOp0_92 ?_
                refine lv_aload_n hx hb d_AR_performOp0_93 rfl (lv_at hl 1 rfl) ?_
                refine g_AR_core hc w mw_161 d_AR_performOp0_94 ?_
                refine rVI (rest := [.int ((f_CO_fn σ) &&& (7 : Int32)), .ref (ad 7)]) hc w (c_CO_t l E ad σ) kv_CO_t mw_574 5 rfl rfl ⟨Nat.le_of_ble_eq_true rfl, Nat.le_of_ble_eq_true rfl⟩ hl.1 rfl (Nat.le_of_ble_eq_true rfl) ⟨Nat.zero_le _, Nat.zero_le _⟩ d_AR_performOp0_97 (fun H locs w => ?_)
                refine rVI (rest := []) hc w (c_AR_trap l E ad σ ((f_CO_fn σ) &&& (7 : Int32)) (f_CO_t σ)) kv_AR_trap mw_633 7 rfl rfl ⟨Nat.le_of_ble_eq_true rfl, Nat.le_of_ble_eq_true rfl⟩ hl.1 rfl (Nat.le_of_ble_eq_true rfl) ⟨Nat.zero_le _, Nat.zero_le _⟩ d_AR_performOp0_100 (fun H locs w => ?_)
                exact rt_i hc w d_AR_performOp0_103 (by rw [← e0, f_AR_performOp0, if_neg q11_0, if_neg q11_1, if_neg q11_2, if_neg q11_3, if_neg q11_4, if_neg q11_5, if_pos q11_6] <;> rfl)
              · refine lv_tableOut (tgt := 104) hx hb d_AR_performOp0_11 (by have k0 := ne_k q11_0 (n := 0) (by decide); have k1 := ne_k q11_1 (n := 1) (by decide); have k2 := ne_k q11_2 (n := 2) (by decide); have k3 := ne_k q11_3 (n := 3) (by decide); have k4 := ne_k q11_4 (n := 4) (by decide); have k5 := ne_k q11_5 (n := 5) (by decide); have k6 := ne_k q11_6 (n := 6) (by decide); omega) (by decide) ?_
                refine lv_bipush (v := 10) hx hb d_AR_performOp0_104 (by decide) ?_
                exact rt_i hc w d_AR_performOp0_106 (by rw [← e0, f_AR_performOp0, if_neg q11_0, if_neg q11_1, if_neg q11_2, if_neg q11_3, if_neg q11_4, if_neg q11_5, if_neg q11_6] <;> rfl)
-- AR_immediate
def f_AR_immediate_c8 (z126 : XS × Int32)   : XS × Int32 := (z126.1, z126.2)
def f_AR_immediate_126 (σ : XS) (w126_1 : Int32) (w126_2 : Bool) : XS × Int32 := f_AR_immediate_c8 (f_CO_put σ w126_1 (zb w126_2))  
def f_AR_immediate_c7 (z148 : XS × Int32)   : XS × Int32 := (z148.1, z148.2)
def f_AR_immediate_148 (σ : XS) (w148_1 : Int32) (w148_2 : Bool) : XS × Int32 := f_AR_immediate_c7 (f_CO_put σ w148_1 (zb w148_2))  
def f_AR_immediate_c6 (z201 : XS × Int32)   : XS × Int32 := (z201.1, z201.2)
def f_AR_immediate_c5 (z187 : XS × Int32)   : XS × Int32 := (z187.1, z187.2)
def f_AR_immediate_c4 (z174 : XS × Int32)   : XS × Int32 := (z174.1, z174.2)
def f_AR_immediate_c3 (z161 : XS × Int32)   : XS × Int32 := (z161.1, z161.2)
def f_AR_immediate_c2 (z107 : XS × Int32)   : XS × Int32 := (z107.1, z107.2)
def f_AR_immediate_c1 (z95 : XS × Int32)   : XS × Int32 := (z95.1, z95.2)
def f_AR_immediate (σ : XS) : XS × Int32 := if (f_CO_op σ) = (8 : Int32) then (f_AR_immediate_c1 (f_AR_putChecked σ (f_CO_rt σ) ((Int32.toInt64 (f_CO_s σ)) + (Int32.toInt64 (f_CO_signedImmediate σ))))  ) else (if (f_CO_op σ) = (9 : Int32) then (f_AR_immediate_c2 (f_CO_put σ (f_CO_rt σ) ((f_CO_s σ) + (f_CO_signedImmediate σ)))  ) else (if (f_CO_op σ) = (10 : Int32) then (if (f_CO_signedImmediate σ) ≤ (f_CO_s σ) then (f_AR_immediate_126 σ (f_CO_rt σ) false) else (f_AR_immediate_126 σ (f_CO_rt σ) true)) else (if (f_CO_op σ) = (11 : Int32) then (if (zb (f_AR_plainlyBelow σ (f_CO_s σ) (f_CO_signedImmediate σ))) = 0 then (f_AR_immediate_148 σ (f_CO_rt σ) false) else (f_AR_immediate_148 σ (f_CO_rt σ) true)) else (if (f_CO_op σ) = (12 : Int32) then (f_AR_immediate_c3 (f_CO_put σ (f_CO_rt σ) ((f_CO_s σ) &&& (f_CO_plainImmediate σ)))  ) else (if (f_CO_op σ) = (13 : Int32) then (f_AR_immediate_c4 (f_CO_put σ (f_CO_rt σ) ((f_CO_s σ) ||| (f_CO_plainImmediate σ)))  ) else (if (f_CO_op σ) = (14 : Int32) then (f_AR_immediate_c5 (f_CO_put σ (f_CO_rt σ) ((f_CO_s σ) ^^^ (f_CO_plainImmediate σ)))  ) else (if (f_CO_op σ) = (15 : Int32) then (f_AR_immediate_c6 (f_CO_put σ (f_CO_rt σ) ((f_CO_plainImmediate σ) <<< ((16 : Int32) &&& 31)))  ) else ((σ, (10 : Int32))))))))))
theorem d_AR_immediate_0 : decode b_AR_immediate 0 = .ok (.aload_n 0, 1) := by decide +kernel
theorem d_AR_immediate_1 : decode b_AR_immediate 1 = .ok (.getfield 7, 3) := by decide +kernel
theorem d_AR_immediate_4 : decode b_AR_immediate 4 = .ok (.invokevirtual 56, 3) := by decide +kernel
theorem d_AR_immediate_7 : decode b_AR_immediate 7 = .ok (.istore_n 1, 1) := by decide +kernel
theorem d_AR_immediate_8 : decode b_AR_immediate 8 = .ok (.aload_n 0, 1) := by decide +kernel
theorem d_AR_immediate_9 : decode b_AR_immediate 9 = .ok (.getfield 7, 3) := by decide +kernel
theorem d_AR_immediate_12 : decode b_AR_immediate 12 = .ok (.invokevirtual 93, 3) := by decide +kernel
theorem d_AR_immediate_15 : decode b_AR_immediate 15 = .ok (.istore_n 2, 1) := by decide +kernel
theorem d_AR_immediate_16 : decode b_AR_immediate 16 = .ok (.aload_n 0, 1) := by decide +kernel
theorem d_AR_immediate_17 : decode b_AR_immediate 17 = .ok (.getfield 7, 3) := by decide +kernel
theorem d_AR_immediate_20 : decode b_AR_immediate 20 = .ok (.invokevirtual 96, 3) := by decide +kernel
theorem d_AR_immediate_23 : decode b_AR_immediate 23 = .ok (.istore_n 3, 1) := by decide +kernel
theorem d_AR_immediate_24 : decode b_AR_immediate 24 = .ok (.aload_n 0, 1) := by decide +kernel
theorem d_AR_immediate_25 : decode b_AR_immediate 25 = .ok (.getfield 7, 3) := by decide +kernel
theorem d_AR_immediate_28 : decode b_AR_immediate 28 = .ok (.invokevirtual 103, 3) := by decide +kernel
theorem d_AR_immediate_31 : decode b_AR_immediate 31 = .ok (.istore 4, 2) := by decide +kernel
theorem d_AR_immediate_33 : decode b_AR_immediate 33 = .ok (.aload_n 0, 1) := by decide +kernel
theorem d_AR_immediate_34 : decode b_AR_immediate 34 = .ok (.getfield 7, 3) := by decide +kernel
theorem d_AR_immediate_37 : decode b_AR_immediate 37 = .ok (.invokevirtual 106, 3) := by decide +kernel
theorem d_AR_immediate_40 : decode b_AR_immediate 40 = .ok (.tableswitch 165 8 15 #[48, 59, 71, 90, 112, 125, 138, 151], 48) := by decide +kernel
theorem d_AR_immediate_88 : decode b_AR_immediate 88 = .ok (.aload_n 0, 1) := by decide +kernel
theorem d_AR_immediate_89 : decode b_AR_immediate 89 = .ok (.iload_n 2, 1) := by decide +kernel
theorem d_AR_immediate_90 : decode b_AR_immediate 90 = .ok (.iload_n 1, 1) := by decide +kernel
theorem d_AR_immediate_91 : decode b_AR_immediate 91 = .ok (.i2l, 1) := by decide +kernel
theorem d_AR_immediate_92 : decode b_AR_immediate 92 = .ok (.iload_n 3, 1) := by decide +kernel
theorem d_AR_immediate_93 : decode b_AR_immediate 93 = .ok (.i2l, 1) := by decide +kernel
theorem d_AR_immediate_94 : decode b_AR_immediate 94 = .ok (.ladd, 1) := by decide +kernel
theorem d_AR_immediate_95 : decode b_AR_immediate 95 = .ok (.invokevirtual 85, 3) := by decide +kernel
theorem d_AR_immediate_98 : decode b_AR_immediate 98 = .ok (.ireturn, 1) := by decide +kernel
theorem d_AR_immediate_99 : decode b_AR_immediate 99 = .ok (.aload_n 0, 1) := by decide +kernel
theorem d_AR_immediate_100 : decode b_AR_immediate 100 = .ok (.getfield 7, 3) := by decide +kernel
theorem d_AR_immediate_103 : decode b_AR_immediate 103 = .ok (.iload_n 2, 1) := by decide +kernel
theorem d_AR_immediate_104 : decode b_AR_immediate 104 = .ok (.iload_n 1, 1) := by decide +kernel
theorem d_AR_immediate_105 : decode b_AR_immediate 105 = .ok (.iload_n 3, 1) := by decide +kernel
theorem d_AR_immediate_106 : decode b_AR_immediate 106 = .ok (.iadd, 1) := by decide +kernel
theorem d_AR_immediate_107 : decode b_AR_immediate 107 = .ok (.invokevirtual 53, 3) := by decide +kernel
theorem d_AR_immediate_110 : decode b_AR_immediate 110 = .ok (.ireturn, 1) := by decide +kernel
theorem d_AR_immediate_111 : decode b_AR_immediate 111 = .ok (.aload_n 0, 1) := by decide +kernel
theorem d_AR_immediate_112 : decode b_AR_immediate 112 = .ok (.getfield 7, 3) := by decide +kernel
theorem d_AR_immediate_115 : decode b_AR_immediate 115 = .ok (.iload_n 2, 1) := by decide +kernel
theorem d_AR_immediate_116 : decode b_AR_immediate 116 = .ok (.iload_n 1, 1) := by decide +kernel
theorem d_AR_immediate_117 : decode b_AR_immediate 117 = .ok (.iload_n 3, 1) := by decide +kernel
theorem d_AR_immediate_118 : decode b_AR_immediate 118 = .ok (.if_icmp .ge 7, 3) := by decide +kernel
theorem d_AR_immediate_121 : decode b_AR_immediate 121 = .ok (.iconst 1, 1) := by decide +kernel
theorem d_AR_immediate_122 : decode b_AR_immediate 122 = .ok (.goto 4, 3) := by decide +kernel
theorem d_AR_immediate_125 : decode b_AR_immediate 125 = .ok (.iconst 0, 1) := by decide +kernel
theorem d_AR_immediate_126 : decode b_AR_immediate 126 = .ok (.invokevirtual 53, 3) := by decide +kernel
theorem d_AR_immediate_129 : decode b_AR_immediate 129 = .ok (.ireturn, 1) := by decide +kernel
theorem d_AR_immediate_130 : decode b_AR_immediate 130 = .ok (.aload_n 0, 1) := by decide +kernel
theorem d_AR_immediate_131 : decode b_AR_immediate 131 = .ok (.getfield 7, 3) := by decide +kernel
theorem d_AR_immediate_134 : decode b_AR_immediate 134 = .ok (.iload_n 2, 1) := by decide +kernel
theorem d_AR_immediate_135 : decode b_AR_immediate 135 = .ok (.iload_n 1, 1) := by decide +kernel
theorem d_AR_immediate_136 : decode b_AR_immediate 136 = .ok (.iload_n 3, 1) := by decide +kernel
theorem d_AR_immediate_137 : decode b_AR_immediate 137 = .ok (.invokestatic 89, 3) := by decide +kernel
theorem d_AR_immediate_140 : decode b_AR_immediate 140 = .ok (.ifCond .eq 7, 3) := by decide +kernel
theorem d_AR_immediate_143 : decode b_AR_immediate 143 = .ok (.iconst 1, 1) := by decide +kernel
theorem d_AR_immediate_144 : decode b_AR_immediate 144 = .ok (.goto 4, 3) := by decide +kernel
theorem d_AR_immediate_147 : decode b_AR_immediate 147 = .ok (.iconst 0, 1) := by decide +kernel
theorem d_AR_immediate_148 : decode b_AR_immediate 148 = .ok (.invokevirtual 53, 3) := by decide +kernel
theorem d_AR_immediate_151 : decode b_AR_immediate 151 = .ok (.ireturn, 1) := by decide +kernel
theorem d_AR_immediate_152 : decode b_AR_immediate 152 = .ok (.aload_n 0, 1) := by decide +kernel
theorem d_AR_immediate_153 : decode b_AR_immediate 153 = .ok (.getfield 7, 3) := by decide +kernel
theorem d_AR_immediate_156 : decode b_AR_immediate 156 = .ok (.iload_n 2, 1) := by decide +kernel
theorem d_AR_immediate_157 : decode b_AR_immediate 157 = .ok (.iload_n 1, 1) := by decide +kernel
theorem d_AR_immediate_158 : decode b_AR_immediate 158 = .ok (.iload 4, 2) := by decide +kernel
theorem d_AR_immediate_160 : decode b_AR_immediate 160 = .ok (.iand, 1) := by decide +kernel
theorem d_AR_immediate_161 : decode b_AR_immediate 161 = .ok (.invokevirtual 53, 3) := by decide +kernel
theorem d_AR_immediate_164 : decode b_AR_immediate 164 = .ok (.ireturn, 1) := by decide +kernel
theorem d_AR_immediate_165 : decode b_AR_immediate 165 = .ok (.aload_n 0, 1) := by decide +kernel
theorem d_AR_immediate_166 : decode b_AR_immediate 166 = .ok (.getfield 7, 3) := by decide +kernel
theorem d_AR_immediate_169 : decode b_AR_immediate 169 = .ok (.iload_n 2, 1) := by decide +kernel
theorem d_AR_immediate_170 : decode b_AR_immediate 170 = .ok (.iload_n 1, 1) := by decide +kernel
theorem d_AR_immediate_171 : decode b_AR_immediate 171 = .ok (.iload 4, 2) := by decide +kernel
theorem d_AR_immediate_173 : decode b_AR_immediate 173 = .ok (.ior, 1) := by decide +kernel
theorem d_AR_immediate_174 : decode b_AR_immediate 174 = .ok (.invokevirtual 53, 3) := by decide +kernel
theorem d_AR_immediate_177 : decode b_AR_immediate 177 = .ok (.ireturn, 1) := by decide +kernel
theorem d_AR_immediate_178 : decode b_AR_immediate 178 = .ok (.aload_n 0, 1) := by decide +kernel
theorem d_AR_immediate_179 : decode b_AR_immediate 179 = .ok (.getfield 7, 3) := by decide +kernel
theorem d_AR_immediate_182 : decode b_AR_immediate 182 = .ok (.iload_n 2, 1) := by decide +kernel
theorem d_AR_immediate_183 : decode b_AR_immediate 183 = .ok (.iload_n 1, 1) := by decide +kernel
theorem d_AR_immediate_184 : decode b_AR_immediate 184 = .ok (.iload 4, 2) := by decide +kernel
theorem d_AR_immediate_186 : decode b_AR_immediate 186 = .ok (.ixor, 1) := by decide +kernel
theorem d_AR_immediate_187 : decode b_AR_immediate 187 = .ok (.invokevirtual 53, 3) := by decide +kernel
theorem d_AR_immediate_190 : decode b_AR_immediate 190 = .ok (.ireturn, 1) := by decide +kernel
theorem d_AR_immediate_191 : decode b_AR_immediate 191 = .ok (.aload_n 0, 1) := by decide +kernel
theorem d_AR_immediate_192 : decode b_AR_immediate 192 = .ok (.getfield 7, 3) := by decide +kernel
theorem d_AR_immediate_195 : decode b_AR_immediate 195 = .ok (.iload_n 2, 1) := by decide +kernel
theorem d_AR_immediate_196 : decode b_AR_immediate 196 = .ok (.iload 4, 2) := by decide +kernel
theorem d_AR_immediate_198 : decode b_AR_immediate 198 = .ok (.bipush 16, 2) := by decide +kernel
theorem d_AR_immediate_200 : decode b_AR_immediate 200 = .ok (.ishl, 1) := by decide +kernel
theorem d_AR_immediate_201 : decode b_AR_immediate 201 = .ok (.invokevirtual 53, 3) := by decide +kernel
theorem d_AR_immediate_204 : decode b_AR_immediate 204 = .ok (.ireturn, 1) := by decide +kernel
theorem d_AR_immediate_205 : decode b_AR_immediate 205 = .ok (.bipush 10, 2) := by decide +kernel
theorem d_AR_immediate_207 : decode b_AR_immediate 207 = .ok (.ireturn, 1) := by decide +kernel
set_option maxHeartbeats 4000000 in
set_option maxRecDepth 100000 in
theorem c_AR_immediate (l : Launch) (E : Ev) (ad : Nat → Nat) (σ : XS) : rC xCl l E (xW E ad) y_AR_immediate b_AR_immediate 5 (Option.some Jvm.ClassFile.FieldType.int) (rmo 2 45) [.ref (ad 7)] σ (zI (f_AR_immediate σ)) := by
  refine rC.of (by decide) (Nat.le_of_ble_eq_true rfl) ?_
  intro p e s m below meth c A ls hc w hl
  generalize e0 : zI (f_AR_immediate σ) = Z
  have hc : Cx xCl E A p s m ([.ref (ad 7)] : List Value).toArray meth c b_AR_immediate 5 (Option.some Jvm.ClassFile.FieldType.int) "PageMachine$Arithmetic" := hc
  have hx := hc.1
  have hb := hc.2.1
  have ho := hc.2.2.2.2.2.1
  have hT := hc.2.2.2.2.2.2.1
  have hl : lv_has ls 5 [(0, .ref (ad 7))] := hl
  have J126 : ∀ (w126_1 : Int32) (w126_2 : Bool) (H : Heap) (locs : List Loc) (ls : Array Slot), Wd xCl E A s.heap H locs (xW E ad σ) → lv_has ls 5 [] → zI (f_AR_immediate_126 σ w126_1 w126_2) = Z → W p l e (rmo 2 45) s m ([.ref (ad 7)] : List Value).toArray below meth c H locs 0 0 (MQ below (rQ xCl (xW E ad) E A Z) ([.ref (ad 7)] : List Value).toArray s 0 0 A) (F0 m 126 ls [.int (zb w126_2), .int w126_1, .ref (ad 5)]) := by
    intro w126_1 w126_2 H locs ls w hl e126
    refine cVI (rest := []) hc w (c_CO_put l E ad σ w126_1 (zb w126_2)) kv_CO_put mw_583 5 rfl rfl ⟨Nat.le_of_ble_eq_true rfl, Nat.le_of_ble_eq_true rfl⟩ hl.1 rfl (Nat.le_of_ble_eq_true rfl) ⟨Nat.zero_le _, Nat.zero_le _⟩ d_AR_immediate_126 (fun z126 H locs hs126 w => ?_)
    have e_c8 : zI (f_AR_immediate_c8 z126  ) = Z := by rw [← e126, f_AR_immediate_126, hs126]
    exact rt_i hc w d_AR_immediate_129 (by rw [← e_c8, f_AR_immediate_c8] <;> rfl)
  have J148 : ∀ (w148_1 : Int32) (w148_2 : Bool) (H : Heap) (locs : List Loc) (ls : Array Slot), Wd xCl E A s.heap H locs (xW E ad σ) → lv_has ls 5 [] → zI (f_AR_immediate_148 σ w148_1 w148_2) = Z → W p l e (rmo 2 45) s m ([.ref (ad 7)] : List Value).toArray below meth c H locs 0 0 (MQ below (rQ xCl (xW E ad) E A Z) ([.ref (ad 7)] : List Value).toArray s 0 0 A) (F0 m 148 ls [.int (zb w148_2), .int w148_1, .ref (ad 5)]) := by
    intro w148_1 w148_2 H locs ls w hl e148
    refine cVI (rest := []) hc w (c_CO_put l E ad σ w148_1 (zb w148_2)) kv_CO_put mw_583 5 rfl rfl ⟨Nat.le_of_ble_eq_true rfl, Nat.le_of_ble_eq_true rfl⟩ hl.1 rfl (Nat.le_of_ble_eq_true rfl) ⟨Nat.zero_le _, Nat.zero_le _⟩ d_AR_immediate_148 (fun z148 H locs hs148 w => ?_)
    have e_c7 : zI (f_AR_immediate_c7 z148  ) = Z := by rw [← e148, f_AR_immediate_148, hs148]
    exact rt_i hc w d_AR_immediate_151 (by rw [← e_c7, f_AR_immediate_c7] <;> rfl)
  refine lv_aload_n hx hb d_AR_immediate_0 rfl (lv_at hl 0 rfl) ?_
  refine g_AR_core hc w mw_161 d_AR_immediate_1 ?_
  refine rVI (rest := []) hc w (c_CO_s l E ad σ) kv_CO_s mw_584 5 rfl rfl ⟨Nat.le_of_ble_eq_true rfl, Nat.le_of_ble_eq_true rfl⟩ hl.1 rfl (Nat.le_of_ble_eq_true rfl) ⟨Nat.zero_le _, Nat.zero_le _⟩ d_AR_immediate_4 (fun H locs w => ?_)
  refine lv_istore_n (lv' := [(1, .int (f_CO_s σ)), (0, .ref (ad 7))]) hx hb d_AR_immediate_7 rfl hl (by decide) rfl (fun ls hl => ?_)
  refine lv_aload_n hx hb d_AR_immediate_8 rfl (lv_at hl 1 rfl) ?_
  refine g_AR_core hc w mw_161 d_AR_immediate_9 ?_
  refine rVI (rest := []) hc w (c_CO_rt l E ad σ) kv_CO_rt mw_669 5 rfl rfl ⟨Nat.le_of_ble_eq_true rfl, Nat.le_of_ble_eq_true rfl⟩ hl.1 rfl (Nat.le_of_ble_eq_true rfl) ⟨Nat.zero_le _, Nat.zero_le _⟩ d_AR_immediate_12 (fun H locs w => ?_)
  refine lv_istore_n (lv' := [(2, .int (f_CO_rt σ)), (1, .int (f_CO_s σ)), (0, .ref (ad 7))]) hx hb d_AR_immediate_15 rfl hl (by decide) rfl (fun ls hl => ?_)
  refine lv_aload_n hx hb d_AR_immediate_16 rfl (lv_at hl 2 rfl) ?_
  refine g_AR_core hc w mw_161 d_AR_immediate_17 ?_
  refine rVI (rest := []) hc w (c_CO_signedImmediate l E ad σ) kv_CO_signedImmediate mw_670 5 rfl rfl ⟨Nat.le_of_ble_eq_true rfl, Nat.le_of_ble_eq_true rfl⟩ hl.1 rfl (Nat.le_of_ble_eq_true rfl) ⟨Nat.zero_le _, Nat.zero_le _⟩ d_AR_immediate_20 (fun H locs w => ?_)
  refine lv_istore_n (lv' := [(3, .int (f_CO_signedImmediate σ)), (2, .int (f_CO_rt σ)), (1, .int (f_CO_s σ)), (0, .ref (ad 7))]) hx hb d_AR_immediate_23 rfl hl (by decide) rfl (fun ls hl => ?_)
  refine lv_aload_n hx hb d_AR_immediate_24 rfl (lv_at hl 3 rfl) ?_
  refine g_AR_core hc w mw_161 d_AR_immediate_25 ?_
  refine rVI (rest := []) hc w (c_CO_plainImmediate l E ad σ) kv_CO_plainImmediate mw_694 5 rfl rfl ⟨Nat.le_of_ble_eq_true rfl, Nat.le_of_ble_eq_true rfl⟩ hl.1 rfl (Nat.le_of_ble_eq_true rfl) ⟨Nat.zero_le _, Nat.zero_le _⟩ d_AR_immediate_28 (fun H locs w => ?_)
  refine lv_istore (lv' := [(4, .int (f_CO_plainImmediate σ)), (3, .int (f_CO_signedImmediate σ)), (2, .int (f_CO_rt σ)), (1, .int (f_CO_s σ)), (0, .ref (ad 7))]) hx hb d_AR_immediate_31 hl (by decide) rfl (fun ls hl => ?_)
  refine lv_aload_n hx hb d_AR_immediate_33 rfl (lv_at hl 4 rfl) ?_
  refine g_AR_core hc w mw_161 d_AR_immediate_34 ?_
  refine rVI (rest := []) hc w (c_CO_op l E ad σ) kv_CO_op mw_699 5 rfl rfl ⟨Nat.le_of_ble_eq_true rfl, Nat.le_of_ble_eq_true rfl⟩ hl.1 rfl (Nat.le_of_ble_eq_true rfl) ⟨Nat.zero_le _, Nat.zero_le _⟩ d_AR_immediate_37 (fun H locs w => ?_)
  by_cases q40_0 : (f_CO_op σ) = (8 : Int32)
  · refine lv_tableIn (tgt := 88) (off := 48) hx hb d_AR_immediate_40 (by rw [q40_0]; decide) (by rw [q40_0]; decide) (by rw [q40_0]; rfl) (by decide) ?_
    refine lv_aload_n hx hb d_AR_immediate_88 rfl (lv_at hl 4 rfl) ?_
    refine lv_iload_n hx hb d_AR_immediate_89 rfl (lv_at hl 2 rfl) ?_
    refine lv_iload_n hx hb d_AR_immediate_90 rfl (lv_at hl 3 rfl) ?_
    refine lv_i2l hx hb d_AR_immediate_91 rfl ?_
    refine lv_iload_n hx hb d_AR_immediate_92 rfl (lv_at hl 1 rfl) ?_
    refine lv_i2l hx hb d_AR_immediate_93 rfl ?_
    refine lv_ladd hx hb d_AR_immediate_94 ?_
    refine cVI (rest := []) hc w (c_AR_putChecked l E ad σ (f_CO_rt σ) ((Int32.toInt64 (f_CO_s σ)) + (Int32.toInt64 (f_CO_signedImmediate σ)))) kv_AR_putChecked mw_621 7 rfl rfl ⟨Nat.le_of_ble_eq_true rfl, Nat.le_of_ble_eq_true rfl⟩ hl.1 rfl (Nat.le_of_ble_eq_true rfl) ⟨Nat.zero_le _, Nat.zero_le _⟩ d_AR_immediate_95 (fun z95 H locs hs95 w => ?_)
    have e_c1 : zI (f_AR_immediate_c1 z95  ) = Z := by rw [← e0, f_AR_immediate, if_pos q40_0, hs95]
    exact rt_i hc w d_AR_immediate_98 (by rw [← e_c1, f_AR_immediate_c1] <;> rfl)
  · by_cases q40_1 : (f_CO_op σ) = (9 : Int32)
    · refine lv_tableIn (tgt := 99) (off := 59) hx hb d_AR_immediate_40 (by rw [q40_1]; decide) (by rw [q40_1]; decide) (by rw [q40_1]; rfl) (by decide) ?_
      refine lv_aload_n hx hb d_AR_immediate_99 rfl (lv_at hl 4 rfl) ?_
      refine g_AR_core hc w mw_161 d_AR_immediate_100 ?_
      refine lv_iload_n hx hb d_AR_immediate_103 rfl (lv_at hl 2 rfl) ?_
      refine lv_iload_n hx hb d_AR_immediate_104 rfl (lv_at hl 3 rfl) ?_
      refine lv_iload_n hx hb d_AR_immediate_105 rfl (lv_at hl 1 rfl) ?_
      refine lv_iadd hx hb d_AR_immediate_106 ?_
      refine cVI (rest := []) hc w (c_CO_put l E ad σ (f_CO_rt σ) ((f_CO_s σ) + (f_CO_signedImmediate σ))) kv_CO_put mw_583 5 rfl rfl ⟨Nat.le_of_ble_eq_true rfl, Nat.le_of_ble_eq_true rfl⟩ hl.1 rfl (Nat.le_of_ble_eq_true rfl) ⟨Nat.zero_le _, Nat.zero_le _⟩ d_AR_immediate_107 (fun z107 H locs hs107 w => ?_)
      have e_c2 : zI (f_AR_immediate_c2 z107  ) = Z := by rw [← e0, f_AR_immediate, if_neg q40_0, if_pos q40_1, hs107]
      exact rt_i hc w d_AR_immediate_110 (by rw [← e_c2, f_AR_immediate_c2] <;> rfl)
    · by_cases q40_2 : (f_CO_op σ) = (10 : Int32)
      · refine lv_tableIn (tgt := 111) (off := 71) hx hb d_AR_immediate_40 (by rw [q40_2]; decide) (by rw [q40_2]; decide) (by rw [q40_2]; rfl) (by decide) ?_
        refine lv_aload_n hx hb d_AR_immediate_111 rfl (lv_at hl 4 rfl) ?_
        refine g_AR_core hc w mw_161 d_AR_immediate_112 ?_
        refine lv_iload_n hx hb d_AR_immediate_115 rfl (lv_at hl 2 rfl) ?_
        refine lv_iload_n hx hb d_AR_immediate_116 rfl (lv_at hl 3 rfl) ?_
        refine lv_iload_n hx hb d_AR_immediate_117 rfl (lv_at hl 1 rfl) ?_
        refine lv_icmp_ge (tgt := 125) hx hb d_AR_immediate_118 (by decide) (fun q118 => ?_) (fun q118 => ?_)
        · refine lv_iconst (v := 0) hx hb d_AR_immediate_125 (by decide) ?_
          exact J126 (f_CO_rt σ) false _ _ _ w (lv_sub hl [] rfl) (by rw [← e0, f_AR_immediate, if_neg q40_0, if_neg q40_1, if_pos q40_2, if_pos q118])
        · refine lv_iconst (v := 1) hx hb d_AR_immediate_121 (by decide) ?_
          refine lv_goto (tgt := 126) hx hb d_AR_immediate_122 (by decide) ?_
          exact J126 (f_CO_rt σ) true _ _ _ w (lv_sub hl [] rfl) (by rw [← e0, f_AR_immediate, if_neg q40_0, if_neg q40_1, if_pos q40_2, if_neg q118])
      · by_cases q40_3 : (f_CO_op σ) = (11 : Int32)
        · refine lv_tableIn (tgt := 130) (off := 90) hx hb d_AR_immediate_40 (by rw [q40_3]; decide) (by rw [q40_3]; decide) (by rw [q40_3]; rfl) (by decide) ?_
          refine lv_aload_n hx hb d_AR_immediate_130 rfl (lv_at hl 4 rfl) ?_
          refine g_AR_core hc w mw_161 d_AR_immediate_131 ?_
          refine lv_iload_n hx hb d_AR_immediate_134 rfl (lv_at hl 2 rfl) ?_
          refine lv_iload_n hx hb d_AR_immediate_135 rfl (lv_at hl 3 rfl) ?_
          refine lv_iload_n hx hb d_AR_immediate_136 rfl (lv_at hl 1 rfl) ?_
          refine rSZ (rest := [.int (f_CO_rt σ), .ref (ad 5)]) hc w (c_AR_plainlyBelow l E ad σ (f_CO_s σ) (f_CO_signedImmediate σ)) ks_AR_plainlyBelow mw_629 ⟨Nat.le_of_ble_eq_true rfl, Nat.le_of_ble_eq_true rfl⟩ hl.1 rfl (Nat.le_of_ble_eq_true rfl) ⟨Nat.zero_le _, Nat.zero_le _⟩ d_AR_immediate_137 (fun H locs w => ?_)
          refine lv_if_eq (tgt := 147) hx hb d_AR_immediate_140 (by decide) (fun q140 => ?_) (fun q140 => ?_)
          · refine lv_iconst (v := 0) hx hb d_AR_immediate_147 (by decide) ?_
            exact J148 (f_CO_rt σ) false _ _ _ w (lv_sub hl [] rfl) (by rw [← e0, f_AR_immediate, if_neg q40_0, if_neg q40_1, if_neg q40_2, if_pos q40_3, if_pos q140])
          · refine lv_iconst (v := 1) hx hb d_AR_immediate_143 (by decide) ?_
            refine lv_goto (tgt := 148) hx hb d_AR_immediate_144 (by decide) ?_
            exact J148 (f_CO_rt σ) true _ _ _ w (lv_sub hl [] rfl) (by rw [← e0, f_AR_immediate, if_neg q40_0, if_neg q40_1, if_neg q40_2, if_pos q40_3, if_neg q140])
        · by_cases q40_4 : (f_CO_op σ) = (12 : Int32)
          · refine lv_tableIn (tgt := 152) (off := 112) hx hb d_AR_immediate_40 (by rw [q40_4]; decide) (by rw [q40_4]; decide) (by rw [q40_4]; rfl) (by decide) ?_
            refine lv_aload_n hx hb d_AR_immediate_152 rfl (lv_at hl 4 rfl) ?_
            refine g_AR_core hc w mw_161 d_AR_immediate_153 ?_
            refine lv_iload_n hx hb d_AR_immediate_156 rfl (lv_at hl 2 rfl) ?_
            refine lv_iload_n hx hb d_AR_immediate_157 rfl (lv_at hl 3 rfl) ?_
            refine lv_iload hx hb d_AR_immediate_158 (lv_at hl 0 rfl) ?_
            refine lv_iand hx hb d_AR_immediate_160 ?_
            refine cVI (rest := []) hc w (c_CO_put l E ad σ (f_CO_rt σ) ((f_CO_s σ) &&& (f_CO_plainImmediate σ))) kv_CO_put mw_583 5 rfl rfl ⟨Nat.le_of_ble_eq_true rfl, Nat.le_of_ble_eq_true rfl⟩ hl.1 rfl (Nat.le_of_ble_eq_true rfl) ⟨Nat.zero_le _, Nat.zero_le _⟩ d_AR_immediate_161 (fun z161 H locs hs161 w => ?_)
            have e_c3 : zI (f_AR_immediate_c3 z161  ) = Z := by rw [← e0, f_AR_immediate, if_neg q40_0, if_neg q40_1, if_neg q40_2, if_neg q40_3, if_pos q40_4, hs161]
            exact rt_i hc w d_AR_immediate_164 (by rw [← e_c3, f_AR_immediate_c3] <;> rfl)
          · by_cases q40_5 : (f_CO_op σ) = (13 : Int32)
            · refine lv_tableIn (tgt := 165) (off := 125) hx hb d_AR_immediate_40 (by rw [q40_5]; decide) (by rw [q40_5]; decide) (by rw [q40_5]; rfl) (by decide) ?_
              refine lv_aload_n hx hb d_AR_immediate_165 rfl (lv_at hl 4 rfl) ?_
              refine g_AR_core hc w mw_161 d_AR_immediate_166 ?_
              refine lv_iload_n hx hb d_AR_immediate_169 rfl (lv_at hl 2 rfl) ?_
              refine lv_iload_n hx hb d_AR_immediate_170 rfl (lv_at hl 3 rfl) ?_
              refine lv_iload hx hb d_AR_immediate_171 (lv_at hl 0 rfl) ?_
              refine lv_ior hx hb d_AR_immediate_173 ?_
              refine cVI (rest := []) hc w (c_CO_put l E ad σ (f_CO_rt σ) ((f_CO_s σ) ||| (f_CO_plainImmediate σ))) kv_CO_put mw_583 5 rfl rfl ⟨Nat.le_of_ble_eq_true rfl, Nat.le_of_ble_eq_true rfl⟩ hl.1 rfl (Nat.le_of_ble_eq_true rfl) ⟨Nat.zero_le _, Nat.zero_le _⟩ d_AR_immediate_174 (fun z174 H locs hs174 w => ?_)
              have e_c4 : zI (f_AR_immediate_c4 z174  ) = Z := by rw [← e0, f_AR_immediate, if_neg q40_0, if_neg q40_1, if_neg q40_2, if_neg q40_3, if_neg q40_4, if_pos q40_5, hs174]
              exact rt_i hc w d_AR_immediate_177 (by rw [← e_c4, f_AR_immediate_c4] <;> rfl)
            · by_cases q40_6 : (f_CO_op σ) = (14 : Int32)
              · refine lv_tableIn (tgt := 178) (off := 138) hx hb d_AR_immediate_40 (by rw [q40_6]; decide) (by rw [q40_6]; decide) (by rw [q40_6]; rfl) (by decide) ?_
                refine lv_aload_n hx hb d_AR_immediate_178 rfl (lv_at hl 4 rfl) ?_
                refine g_AR_core hc w mw_161 d_AR_immediate_179 ?_
                refine lv_iload_n hx hb d_AR_immediate_182 rfl (lv_at hl 2 rfl) ?_
                refine lv_iload_n hx hb d_AR_immediate_183 rfl (lv_at hl 3 rfl) ?_
                refine lv_iload hx hb d_AR_immediate_184 (lv_at hl 0 rfl) ?_
                refine lv_ixor hx hb d_AR_immediate_186 ?_
                refine cVI (rest := []) hc w (c_CO_put l E ad σ (f_CO_rt σ) ((f_CO_s σ) ^^^ (f_CO_plainImmediate σ))) kv_CO_put mw_583 5 rfl rfl ⟨Nat.le_of_ble_eq_true rfl, Nat.le_of_ble_eq_true rfl⟩ hl.1 rfl (Nat.le_of_ble_eq_true rfl) ⟨Nat.zero_le _, Nat.zero_le _⟩ d_AR_immediate_187 (fun z187 H locs hs187 w => ?_)
                have e_c5 : zI (f_AR_immediate_c5 z187  ) = Z := by rw [← e0, f_AR_immediate, if_neg q40_0, if_neg q40_1, if_neg q40_2, if_neg q40_3, if_neg q40_4, if_neg q40_5, if_pos q40_6, hs187]
                exact rt_i hc w d_AR_immediate_190 (by rw [← e_c5, f_AR_immediate_c5] <;> rfl)
              · by_cases q40_7 : (f_CO_op σ) = (15 : Int32)
                · refine lv_tableIn (tgt := 191) (off := 151) hx hb d_AR_immediate_40 (by rw [q40_7]; decide) (by rw [q40_7]; decide) (by rw [q40_7]; rfl) (by decide) ?_
                  refine lv_aload_n hx hb d_AR_immediate_191 rfl (lv_at hl 4 rfl) ?_
                  refine g_AR_core hc w mw_161 d_AR_immediate_192 ?_
                  refine lv_iload_n hx hb d_AR_immediate_195 rfl (lv_at hl 2 rfl) ?_
                  refine lv_iload hx hb d_AR_immediate_196 (lv_at hl 0 rfl) ?_
                  refine lv_bipush (v := 16) hx hb d_AR_immediate_198 (by decide) ?_
                  refine lv_ishl hx hb d_AR_immediate_200 ?_
                  refine cVI (rest := []) hc w (c_CO_put l E ad σ (f_CO_rt σ) ((f_CO_plainImmediate σ) <<< ((16 : Int32) &&& 31))) kv_CO_put mw_583 5 rfl rfl ⟨Nat.le_of_ble_eq_true rfl, Nat.le_of_ble_eq_true rfl⟩ hl.1 rfl (Nat.le_of_ble_eq_true rfl) ⟨Nat.zero_le _, Nat.zero_le _⟩ d_AR_immediate_201 (fun z201 H locs hs201 w => ?_)
                  have e_c6 : zI (f_AR_immediate_c6 z201  ) = Z := by rw [← e0, f_AR_immediate, if_neg q40_0, if_neg q40_1, if_neg q40_2, if_neg q40_3, if_neg q40_4, if_neg q40_5, if_neg q40_6, if_pos q40_7, hs201]
                  exact rt_i hc w d_AR_immediate_204 (by rw [← e_c6, f_AR_immediate_c6] <;> rfl)
                · refine lv_tableOut (tgt := 205) hx hb d_AR_immediate_40 (by have k0 := ne_k q40_0 (n := 8) (by decide); have k1 := ne_k q40_1 (n := 9) (by decide); have k2 := ne_k q40_2 (n := 10) (by decide); have k3 := ne_k q40_3 (n := 11) (by decide); have k4 := ne_k q40_4 (n := 12) (by decide); have k5 := ne_k q40_5 (n := 13) (by decide); have k6 := ne_k q40_6 (n := 14) (by decide); have k7 := ne_k q40_7 (n := 15) (by decide); omega) (by decide) ?_
                  refine lv_bipush (v := 10) hx hb d_AR_immediate_205 (by decide) ?_
                  exact rt_i hc w d_AR_immediate_207 (by rw [← e0, f_AR_immediate, if_neg q40_0, if_neg q40_1, if_neg q40_2, if_neg q40_3, if_neg q40_4, if_neg q40_5, if_neg q40_6, if_neg q40_7] <;> rfl)
-- AR_performOp1C
def f_AR_performOp1C_c7 (z208 : XS × Int32)   : XS × Int32 := (z208.1, z208.2)
def f_AR_performOp1C_c6 (z187 : XS × Int32)   : XS × Int32 := (z187.1, z187.2)
def f_AR_performOp1C_c5 (z168 : XS × Int32)   : XS × Int32 := (z168.1, z168.2)
def f_AR_performOp1C_c4 (z151 : XS × Int32)   : XS × Int32 := (z151.1, z151.2)
def f_AR_performOp1C_c3 (z134 : XS × Int32)   : XS × Int32 := (z134.1, z134.2)
def f_AR_performOp1C_c2 (z110 : XS × Int32)   : XS × Int32 := (z110.1, z110.2)
def f_AR_performOp1C_c1 (z93 : XS × Int32)   : XS × Int32 := (z93.1, z93.2)
def f_AR_performOp1C (σ : XS) : XS × Int32 := if (f_CO_fn σ) = (0 : Int32) then (f_AR_performOp1C_c1 (f_CO_putProduct σ ((f_AR_hiLo σ) + (f_AR_product σ)))  ) else (if (f_CO_fn σ) = (1 : Int32) then (f_AR_performOp1C_c2 (f_CO_putProduct σ ((f_AR_hiLo σ) + (f_AR_plainProduct σ)))  ) else (if (f_CO_fn σ) = (2 : Int32) then (f_AR_performOp1C_c3 (f_CO_put σ (f_CO_rd σ) ((f_CO_s σ) * (f_CO_t σ)))  ) else (if (f_CO_fn σ) = (4 : Int32) then (f_AR_performOp1C_c4 (f_CO_putProduct σ ((f_AR_hiLo σ) - (f_AR_product σ)))  ) else (if (f_CO_fn σ) = (5 : Int32) then (f_AR_performOp1C_c5 (f_CO_putProduct σ ((f_AR_hiLo σ) - (f_AR_plainProduct σ)))  ) else (if (f_CO_fn σ) = (32 : Int32) then (f_AR_performOp1C_c6 (f_CO_put σ (f_CO_rd σ) (f_IN_numberOfLeadingZeros σ (f_CO_s σ)))  ) else (if (f_CO_fn σ) = (33 : Int32) then (f_AR_performOp1C_c7 (f_CO_put σ (f_CO_rd σ) (f_IN_numberOfLeadingZeros σ ((f_CO_s σ) ^^^ (-1 : Int32))))  ) else ((σ, (10 : Int32)))))))))
theorem d_AR_performOp1C_0 : decode b_AR_performOp1C 0 = .ok (.aload_n 0, 1) := by decide +kernel
theorem d_AR_performOp1C_1 : decode b_AR_performOp1C 1 = .ok (.getfield 7, 3) := by decide +kernel
theorem d_AR_performOp1C_4 : decode b_AR_performOp1C 4 = .ok (.invokevirtual 56, 3) := by decide +kernel
theorem d_AR_performOp1C_7 : decode b_AR_performOp1C 7 = .ok (.istore_n 1, 1) := by decide +kernel
theorem d_AR_performOp1C_8 : decode b_AR_performOp1C 8 = .ok (.aload_n 0, 1) := by decide +kernel
theorem d_AR_performOp1C_9 : decode b_AR_performOp1C 9 = .ok (.getfield 7, 3) := by decide +kernel
theorem d_AR_performOp1C_12 : decode b_AR_performOp1C 12 = .ok (.invokevirtual 13, 3) := by decide +kernel
theorem d_AR_performOp1C_15 : decode b_AR_performOp1C 15 = .ok (.lookupswitch 197 #[(0, 65), (1, 82), (2, 99), (4, 123), (5, 140), (32, 157), (33, 176)], 65) := by decide +kernel
theorem d_AR_performOp1C_80 : decode b_AR_performOp1C 80 = .ok (.aload_n 0, 1) := by decide +kernel
theorem d_AR_performOp1C_81 : decode b_AR_performOp1C 81 = .ok (.getfield 7, 3) := by decide +kernel
theorem d_AR_performOp1C_84 : decode b_AR_performOp1C 84 = .ok (.aload_n 0, 1) := by decide +kernel
theorem d_AR_performOp1C_85 : decode b_AR_performOp1C 85 = .ok (.invokevirtual 109, 3) := by decide +kernel
theorem d_AR_performOp1C_88 : decode b_AR_performOp1C 88 = .ok (.aload_n 0, 1) := by decide +kernel
theorem d_AR_performOp1C_89 : decode b_AR_performOp1C 89 = .ok (.invokevirtual 66, 3) := by decide +kernel
theorem d_AR_performOp1C_92 : decode b_AR_performOp1C 92 = .ok (.ladd, 1) := by decide +kernel
theorem d_AR_performOp1C_93 : decode b_AR_performOp1C 93 = .ok (.invokevirtual 70, 3) := by decide +kernel
theorem d_AR_performOp1C_96 : decode b_AR_performOp1C 96 = .ok (.ireturn, 1) := by decide +kernel
theorem d_AR_performOp1C_97 : decode b_AR_performOp1C 97 = .ok (.aload_n 0, 1) := by decide +kernel
theorem d_AR_performOp1C_98 : decode b_AR_performOp1C 98 = .ok (.getfield 7, 3) := by decide +kernel
theorem d_AR_performOp1C_101 : decode b_AR_performOp1C 101 = .ok (.aload_n 0, 1) := by decide +kernel
theorem d_AR_performOp1C_102 : decode b_AR_performOp1C 102 = .ok (.invokevirtual 109, 3) := by decide +kernel
theorem d_AR_performOp1C_105 : decode b_AR_performOp1C 105 = .ok (.aload_n 0, 1) := by decide +kernel
theorem d_AR_performOp1C_106 : decode b_AR_performOp1C 106 = .ok (.invokevirtual 74, 3) := by decide +kernel
theorem d_AR_performOp1C_109 : decode b_AR_performOp1C 109 = .ok (.ladd, 1) := by decide +kernel
theorem d_AR_performOp1C_110 : decode b_AR_performOp1C 110 = .ok (.invokevirtual 70, 3) := by decide +kernel
theorem d_AR_performOp1C_113 : decode b_AR_performOp1C 113 = .ok (.ireturn, 1) := by decide +kernel
theorem d_AR_performOp1C_114 : decode b_AR_performOp1C 114 = .ok (.aload_n 0, 1) := by decide +kernel
theorem d_AR_performOp1C_115 : decode b_AR_performOp1C 115 = .ok (.getfield 7, 3) := by decide +kernel
theorem d_AR_performOp1C_118 : decode b_AR_performOp1C 118 = .ok (.aload_n 0, 1) := by decide +kernel
theorem d_AR_performOp1C_119 : decode b_AR_performOp1C 119 = .ok (.getfield 7, 3) := by decide +kernel
theorem d_AR_performOp1C_122 : decode b_AR_performOp1C 122 = .ok (.invokevirtual 47, 3) := by decide +kernel
theorem d_AR_performOp1C_125 : decode b_AR_performOp1C 125 = .ok (.iload_n 1, 1) := by decide +kernel
theorem d_AR_performOp1C_126 : decode b_AR_performOp1C 126 = .ok (.aload_n 0, 1) := by decide +kernel
theorem d_AR_performOp1C_127 : decode b_AR_performOp1C 127 = .ok (.getfield 7, 3) := by decide +kernel
theorem d_AR_performOp1C_130 : decode b_AR_performOp1C 130 = .ok (.invokevirtual 38, 3) := by decide +kernel
theorem d_AR_performOp1C_133 : decode b_AR_performOp1C 133 = .ok (.imul, 1) := by decide +kernel
theorem d_AR_performOp1C_134 : decode b_AR_performOp1C 134 = .ok (.invokevirtual 53, 3) := by decide +kernel
theorem d_AR_performOp1C_137 : decode b_AR_performOp1C 137 = .ok (.ireturn, 1) := by decide +kernel
theorem d_AR_performOp1C_138 : decode b_AR_performOp1C 138 = .ok (.aload_n 0, 1) := by decide +kernel
theorem d_AR_performOp1C_139 : decode b_AR_performOp1C 139 = .ok (.getfield 7, 3) := by decide +kernel
theorem d_AR_performOp1C_142 : decode b_AR_performOp1C 142 = .ok (.aload_n 0, 1) := by decide +kernel
theorem d_AR_performOp1C_143 : decode b_AR_performOp1C 143 = .ok (.invokevirtual 109, 3) := by decide +kernel
theorem d_AR_performOp1C_146 : decode b_AR_performOp1C 146 = .ok (.aload_n 0, 1) := by decide +kernel
theorem d_AR_performOp1C_147 : decode b_AR_performOp1C 147 = .ok (.invokevirtual 66, 3) := by decide +kernel
theorem d_AR_performOp1C_150 : decode b_AR_performOp1C 150 = .ok (.lsub, 1) := by decide +kernel
theorem d_AR_performOp1C_151 : decode b_AR_performOp1C 151 = .ok (.invokevirtual 70, 3) := by decide +kernel
theorem d_AR_performOp1C_154 : decode b_AR_performOp1C 154 = .ok (.ireturn, 1) := by decide +kernel
theorem d_AR_performOp1C_155 : decode b_AR_performOp1C 155 = .ok (.aload_n 0, 1) := by decide +kernel
theorem d_AR_performOp1C_156 : decode b_AR_performOp1C 156 = .ok (.getfield 7, 3) := by decide +kernel
theorem d_AR_performOp1C_159 : decode b_AR_performOp1C 159 = .ok (.aload_n 0, 1) := by decide +kernel
theorem d_AR_performOp1C_160 : decode b_AR_performOp1C 160 = .ok (.invokevirtual 109, 3) := by decide +kernel
theorem d_AR_performOp1C_163 : decode b_AR_performOp1C 163 = .ok (.aload_n 0, 1) := by decide +kernel
theorem d_AR_performOp1C_164 : decode b_AR_performOp1C 164 = .ok (.invokevirtual 74, 3) := by decide +kernel
theorem d_AR_performOp1C_167 : decode b_AR_performOp1C 167 = .ok (.lsub, 1) := by decide +kernel
theorem d_AR_performOp1C_168 : decode b_AR_performOp1C 168 = .ok (.invokevirtual 70, 3) := by decide +kernel
theorem d_AR_performOp1C_171 : decode b_AR_performOp1C 171 = .ok (.ireturn, 1) := by decide +kernel
theorem d_AR_performOp1C_172 : decode b_AR_performOp1C 172 = .ok (.aload_n 0, 1) := by decide +kernel
theorem d_AR_performOp1C_173 : decode b_AR_performOp1C 173 = .ok (.getfield 7, 3) := by decide +kernel
theorem d_AR_performOp1C_176 : decode b_AR_performOp1C 176 = .ok (.aload_n 0, 1) := by decide +kernel
theorem d_AR_performOp1C_177 : decode b_AR_performOp1C 177 = .ok (.getfield 7, 3) := by decide +kernel
theorem d_AR_performOp1C_180 : decode b_AR_performOp1C 180 = .ok (.invokevirtual 47, 3) := by decide +kernel
theorem d_AR_performOp1C_183 : decode b_AR_performOp1C 183 = .ok (.iload_n 1, 1) := by decide +kernel
theorem d_AR_performOp1C_184 : decode b_AR_performOp1C 184 = .ok (.invokestatic 112, 3) := by decide +kernel
theorem d_AR_performOp1C_187 : decode b_AR_performOp1C 187 = .ok (.invokevirtual 53, 3) := by decide +kernel
theorem d_AR_performOp1C_190 : decode b_AR_performOp1C 190 = .ok (.ireturn, 1) := by decide +kernel
theorem d_AR_performOp1C_191 : decode b_AR_performOp1C 191 = .ok (.aload_n 0, 1) := by decide +kernel
theorem d_AR_performOp1C_192 : decode b_AR_performOp1C 192 = .ok (.getfield 7, 3) := by decide +kernel
theorem d_AR_performOp1C_195 : decode b_AR_performOp1C 195 = .ok (.aload_n 0, 1) := by decide +kernel
theorem d_AR_performOp1C_196 : decode b_AR_performOp1C 196 = .ok (.getfield 7, 3) := by decide +kernel
theorem d_AR_performOp1C_199 : decode b_AR_performOp1C 199 = .ok (.invokevirtual 47, 3) := by decide +kernel
theorem d_AR_performOp1C_202 : decode b_AR_performOp1C 202 = .ok (.iload_n 1, 1) := by decide +kernel
theorem d_AR_performOp1C_203 : decode b_AR_performOp1C 203 = .ok (.iconst (-1), 1) := by decide +kernel
theorem d_AR_performOp1C_204 : decode b_AR_performOp1C 204 = .ok (.ixor, 1) := by decide +kernel
theorem d_AR_performOp1C_205 : decode b_AR_performOp1C 205 = .ok (.invokestatic 112, 3) := by decide +kernel
theorem d_AR_performOp1C_208 : decode b_AR_performOp1C 208 = .ok (.invokevirtual 53, 3) := by decide +kernel
theorem d_AR_performOp1C_211 : decode b_AR_performOp1C 211 = .ok (.ireturn, 1) := by decide +kernel
theorem d_AR_performOp1C_212 : decode b_AR_performOp1C 212 = .ok (.bipush 10, 2) := by decide +kernel
theorem d_AR_performOp1C_214 : decode b_AR_performOp1C 214 = .ok (.ireturn, 1) := by decide +kernel
set_option maxHeartbeats 4000000 in
set_option maxRecDepth 100000 in
theorem c_AR_performOp1C (l : Launch) (E : Ev) (ad : Nat → Nat) (σ : XS) : rC xCl l E (xW E ad) y_AR_performOp1C b_AR_performOp1C 2 (Option.some Jvm.ClassFile.FieldType.int) (rmo 2 40) [.ref (ad 7)] σ (zI (f_AR_performOp1C σ)) := by
  refine rC.of (by decide) (Nat.le_of_ble_eq_true rfl) ?_
  intro p e s m below meth c A ls hc w hl
  generalize e0 : zI (f_AR_performOp1C σ) = Z
  have hc : Cx xCl E A p s m ([.ref (ad 7)] : List Value).toArray meth c b_AR_performOp1C 2 (Option.some Jvm.ClassFile.FieldType.int) "PageMachine$Arithmetic" := hc
  have hx := hc.1
  have hb := hc.2.1
  have ho := hc.2.2.2.2.2.1
  have hT := hc.2.2.2.2.2.2.1
  have hl : lv_has ls 2 [(0, .ref (ad 7))] := hl
  refine lv_aload_n hx hb d_AR_performOp1C_0 rfl (lv_at hl 0 rfl) ?_
  refine g_AR_core hc w mw_161 d_AR_performOp1C_1 ?_
  refine rVI (rest := []) hc w (c_CO_s l E ad σ) kv_CO_s mw_584 5 rfl rfl ⟨Nat.le_of_ble_eq_true rfl, Nat.le_of_ble_eq_true rfl⟩ hl.1 rfl (Nat.le_of_ble_eq_true rfl) ⟨Nat.zero_le _, Nat.zero_le _⟩ d_AR_performOp1C_4 (fun H locs w => ?_)
  refine lv_istore_n (lv' := [(1, .int (f_CO_s σ)), (0, .ref (ad 7))]) hx hb d_AR_performOp1C_7 rfl hl (by decide) rfl (fun ls hl => ?_)
  refine lv_aload_n hx hb d_AR_performOp1C_8 rfl (lv_at hl 1 rfl) ?_
  refine g_AR_core hc w mw_161 d_AR_performOp1C_9 ?_
  refine rVI (rest := []) hc w (c_CO_fn l E ad σ) kv_CO_fn mw_569 5 rfl rfl ⟨Nat.le_of_ble_eq_true rfl, Nat.le_of_ble_eq_true rfl⟩ hl.1 rfl (Nat.le_of_ble_eq_true rfl) ⟨Nat.zero_le _, Nat.zero_le _⟩ d_AR_performOp1C_12 (fun H locs w => ?_)
  by_cases q15_0 : (f_CO_fn σ) = (0 : Int32)
  · refine lv_lookup (tgt := 80) (off := 65) hx hb d_AR_performOp1C_15 (by decide) (by rw [q15_0]; decide) (by decide) ?_
    refine lv_aload_n hx hb d_AR_performOp1C_80 rfl (lv_at hl 1 rfl) ?_
    refine g_AR_core hc w mw_161 d_AR_performOp1C_81 ?_
    refine lv_aload_n hx hb d_AR_performOp1C_84 rfl (lv_at hl 1 rfl) ?_
    refine rVL (rest := [.ref (ad 5)]) hc w (c_AR_hiLo l E ad σ) kv_AR_hiLo mw_782 7 rfl rfl ⟨Nat.le_of_ble_eq_true rfl, Nat.le_of_ble_eq_true rfl⟩ hl.1 rfl (Nat.le_of_ble_eq_true rfl) ⟨Nat.zero_le _, Nat.zero_le _⟩ d_AR_performOp1C_85 (fun H locs w => ?_)
    refine lv_aload_n hx hb d_AR_performOp1C_88 rfl (lv_at hl 1 rfl) ?_
    refine rVL (rest := [.long (f_AR_hiLo σ), .ref (ad 5)]) hc w (c_AR_product l E ad σ) kv_AR_product mw_597 7 rfl rfl ⟨Nat.le_of_ble_eq_true rfl, Nat.le_of_ble_eq_true rfl⟩ hl.1 rfl (Nat.le_of_ble_eq_true rfl) ⟨Nat.zero_le _, Nat.zero_le _⟩ d_AR_performOp1C_89 (fun H locs w => ?_)
    refine lv_ladd hx hb d_AR_performOp1C_92 ?_
    refine cVI (rest := []) hc w (c_CO_putProduct l E ad σ ((f_AR_hiLo σ) + (f_AR_product σ))) kv_CO_putProduct mw_601 5 rfl rfl ⟨Nat.le_of_ble_eq_true rfl, Nat.le_of_ble_eq_true rfl⟩ hl.1 rfl (Nat.le_of_ble_eq_true rfl) ⟨Nat.zero_le _, Nat.zero_le _⟩ d_AR_performOp1C_93 (fun z93 H locs hs93 w => ?_)
    have e_c1 : zI (f_AR_performOp1C_c1 z93  ) = Z := by rw [← e0, f_AR_performOp1C, if_pos q15_0, hs93]
    exact rt_i hc w d_AR_performOp1C_96 (by rw [← e_c1, f_AR_performOp1C_c1] <;> rfl)
  · by_cases q15_1 : (f_CO_fn σ) = (1 : Int32)
    · refine lv_lookup (tgt := 97) (off := 82) hx hb d_AR_performOp1C_15 (by decide) (by rw [q15_1]; decide) (by decide) ?_
      refine lv_aload_n hx hb d_AR_performOp1C_97 rfl (lv_at hl 1 rfl) ?_
      refine g_AR_core hc w mw_161 d_AR_performOp1C_98 ?_
      refine lv_aload_n hx hb d_AR_performOp1C_101 rfl (lv_at hl 1 rfl) ?_
      refine rVL (rest := [.ref (ad 5)]) hc w (c_AR_hiLo l E ad σ) kv_AR_hiLo mw_782 7 rfl rfl ⟨Nat.le_of_ble_eq_true rfl, Nat.le_of_ble_eq_true rfl⟩ hl.1 rfl (Nat.le_of_ble_eq_true rfl) ⟨Nat.zero_le _, Nat.zero_le _⟩ d_AR_performOp1C_102 (fun H locs w => ?_)
      refine lv_aload_n hx hb d_AR_performOp1C_105 rfl (lv_at hl 1 rfl) ?_
      refine rVL (rest := [.long (f_AR_hiLo σ), .ref (ad 5)]) hc w (c_AR_plainProduct l E ad σ) kv_AR_plainProduct mw_605 7 rfl rfl ⟨Nat.le_of_ble_eq_true rfl, Nat.le_of_ble_eq_true rfl⟩ hl.1 rfl (Nat.le_of_ble_eq_true rfl) ⟨Nat.zero_le _, Nat.zero_le _⟩ d_AR_performOp1C_106 (fun H locs w => ?_)
      refine lv_ladd hx hb d_AR_performOp1C_109 ?_
      refine cVI (rest := []) hc w (c_CO_putProduct l E ad σ ((f_AR_hiLo σ) + (f_AR_plainProduct σ))) kv_CO_putProduct mw_601 5 rfl rfl ⟨Nat.le_of_ble_eq_true rfl, Nat.le_of_ble_eq_true rfl⟩ hl.1 rfl (Nat.le_of_ble_eq_true rfl) ⟨Nat.zero_le _, Nat.zero_le _⟩ d_AR_performOp1C_110 (fun z110 H locs hs110 w => ?_)
      have e_c2 : zI (f_AR_performOp1C_c2 z110  ) = Z := by rw [← e0, f_AR_performOp1C, if_neg q15_0, if_pos q15_1, hs110]
      exact rt_i hc w d_AR_performOp1C_113 (by rw [← e_c2, f_AR_performOp1C_c2] <;> rfl)
    · by_cases q15_2 : (f_CO_fn σ) = (2 : Int32)
      · refine lv_lookup (tgt := 114) (off := 99) hx hb d_AR_performOp1C_15 (by decide) (by rw [q15_2]; decide) (by decide) ?_
        refine lv_aload_n hx hb d_AR_performOp1C_114 rfl (lv_at hl 1 rfl) ?_
        refine g_AR_core hc w mw_161 d_AR_performOp1C_115 ?_
        refine lv_aload_n hx hb d_AR_performOp1C_118 rfl (lv_at hl 1 rfl) ?_
        refine g_AR_core hc w mw_161 d_AR_performOp1C_119 ?_
        refine rVI (rest := [.ref (ad 5)]) hc w (c_CO_rd l E ad σ) kv_CO_rd mw_578 5 rfl rfl ⟨Nat.le_of_ble_eq_true rfl, Nat.le_of_ble_eq_true rfl⟩ hl.1 rfl (Nat.le_of_ble_eq_true rfl) ⟨Nat.zero_le _, Nat.zero_le _⟩ d_AR_performOp1C_122 (fun H locs w => ?_)
        refine lv_iload_n hx hb d_AR_performOp1C_125 rfl (lv_at hl 0 rfl) ?_
        refine lv_aload_n hx hb d_AR_performOp1C_126 rfl (lv_at hl 1 rfl) ?_
        refine g_AR_core hc w mw_161 d_AR_performOp1C_127 ?_
        refine rVI (rest := [.int (f_CO_s σ), .int (f_CO_rd σ), .ref (ad 5)]) hc w (c_CO_t l E ad σ) kv_CO_t mw_574 5 rfl rfl ⟨Nat.le_of_ble_eq_true rfl, Nat.le_of_ble_eq_true rfl⟩ hl.1 rfl (Nat.le_of_ble_eq_true rfl) ⟨Nat.zero_le _, Nat.zero_le _⟩ d_AR_performOp1C_130 (fun H locs w => ?_)
        refine lv_imul hx hb d_AR_performOp1C_133 ?_
        refine cVI (rest := []) hc w (c_CO_put l E ad σ (f_CO_rd σ) ((f_CO_s σ) * (f_CO_t σ))) kv_CO_put mw_583 5 rfl rfl ⟨Nat.le_of_ble_eq_true rfl, Nat.le_of_ble_eq_true rfl⟩ hl.1 rfl (Nat.le_of_ble_eq_true rfl) ⟨Nat.zero_le _, Nat.zero_le _⟩ d_AR_performOp1C_134 (fun z134 H locs hs134 w => ?_)
        have e_c3 : zI (f_AR_performOp1C_c3 z134  ) = Z := by rw [← e0, f_AR_performOp1C, if_neg q15_0, if_neg q15_1, if_pos q15_2, hs134]
        exact rt_i hc w d_AR_performOp1C_137 (by rw [← e_c3, f_AR_performOp1C_c3] <;> rfl)
      · by_cases q15_3 : (f_CO_fn σ) = (4 : Int32)
        · refine lv_lookup (tgt := 138) (off := 123) hx hb d_AR_performOp1C_15 (by decide) (by rw [q15_3]; decide) (by decide) ?_
          refine lv_aload_n hx hb d_AR_performOp1C_138 rfl (lv_at hl 1 rfl) ?_
          refine g_AR_core hc w mw_161 d_AR_performOp1C_139 ?_
          refine lv_aload_n hx hb d_AR_performOp1C_142 rfl (lv_at hl 1 rfl) ?_
          refine rVL (rest := [.ref (ad 5)]) hc w (c_AR_hiLo l E ad σ) kv_AR_hiLo mw_782 7 rfl rfl ⟨Nat.le_of_ble_eq_true rfl, Nat.le_of_ble_eq_true rfl⟩ hl.1 rfl (Nat.le_of_ble_eq_true rfl) ⟨Nat.zero_le _, Nat.zero_le _⟩ d_AR_performOp1C_143 (fun H locs w => ?_)
          refine lv_aload_n hx hb d_AR_performOp1C_146 rfl (lv_at hl 1 rfl) ?_
          refine rVL (rest := [.long (f_AR_hiLo σ), .ref (ad 5)]) hc w (c_AR_product l E ad σ) kv_AR_product mw_597 7 rfl rfl ⟨Nat.le_of_ble_eq_true rfl, Nat.le_of_ble_eq_true rfl⟩ hl.1 rfl (Nat.le_of_ble_eq_true rfl) ⟨Nat.zero_le _, Nat.zero_le _⟩ d_AR_performOp1C_147 (fun H locs w => ?_)
          refine lv_lsub hx hb d_AR_performOp1C_150 ?_
          refine cVI (rest := []) hc w (c_CO_putProduct l E ad σ ((f_AR_hiLo σ) - (f_AR_product σ))) kv_CO_putProduct mw_601 5 rfl rfl ⟨Nat.le_of_ble_eq_true rfl, Nat.le_of_ble_eq_true rfl⟩ hl.1 rfl (Nat.le_of_ble_eq_true rfl) ⟨Nat.zero_le _, Nat.zero_le _⟩ d_AR_performOp1C_151 (fun z151 H locs hs151 w => ?_)
          have e_c4 : zI (f_AR_performOp1C_c4 z151  ) = Z := by rw [← e0, f_AR_performOp1C, if_neg q15_0, if_neg q15_1, if_neg q15_2, if_pos q15_3, hs151]
          exact rt_i hc w d_AR_performOp1C_154 (by rw [← e_c4, f_AR_performOp1C_c4] <;> rfl)
        · by_cases q15_4 : (f_CO_fn σ) = (5 : Int32)
          · refine lv_lookup (tgt := 155) (off := 140) hx hb d_AR_performOp1C_15 (by decide) (by rw [q15_4]; decide) (by decide) ?_
            refine lv_aload_n hx hb d_AR_performOp1C_155 rfl (lv_at hl 1 rfl) ?_
            refine g_AR_core hc w mw_161 d_AR_performOp1C_156 ?_
            refine lv_aload_n hx hb d_AR_performOp1C_159 rfl (lv_at hl 1 rfl) ?_
            refine rVL (rest := [.ref (ad 5)]) hc w (c_AR_hiLo l E ad σ) kv_AR_hiLo mw_782 7 rfl rfl ⟨Nat.le_of_ble_eq_true rfl, Nat.le_of_ble_eq_true rfl⟩ hl.1 rfl (Nat.le_of_ble_eq_true rfl) ⟨Nat.zero_le _, Nat.zero_le _⟩ d_AR_performOp1C_160 (fun H locs w => ?_)
            refine lv_aload_n hx hb d_AR_performOp1C_163 rfl (lv_at hl 1 rfl) ?_
            refine rVL (rest := [.long (f_AR_hiLo σ), .ref (ad 5)]) hc w (c_AR_plainProduct l E ad σ) kv_AR_plainProduct mw_605 7 rfl rfl ⟨Nat.le_of_ble_eq_true rfl, Nat.le_of_ble_eq_true rfl⟩ hl.1 rfl (Nat.le_of_ble_eq_true rfl) ⟨Nat.zero_le _, Nat.zero_le _⟩ d_AR_performOp1C_164 (fun H locs w => ?_)
            refine lv_lsub hx hb d_AR_performOp1C_167 ?_
            refine cVI (rest := []) hc w (c_CO_putProduct l E ad σ ((f_AR_hiLo σ) - (f_AR_plainProduct σ))) kv_CO_putProduct mw_601 5 rfl rfl ⟨Nat.le_of_ble_eq_true rfl, Nat.le_of_ble_eq_true rfl⟩ hl.1 rfl (Nat.le_of_ble_eq_true rfl) ⟨Nat.zero_le _, Nat.zero_le _⟩ d_AR_performOp1C_168 (fun z168 H locs hs168 w => ?_)
            have e_c5 : zI (f_AR_performOp1C_c5 z168  ) = Z := by rw [← e0, f_AR_performOp1C, if_neg q15_0, if_neg q15_1, if_neg q15_2, if_neg q15_3, if_pos q15_4, hs168]
            exact rt_i hc w d_AR_performOp1C_171 (by rw [← e_c5, f_AR_performOp1C_c5] <;> rfl)
          · by_cases q15_5 : (f_CO_fn σ) = (32 : Int32)
            · refine lv_lookup (tgt := 172) (off := 157) hx hb d_AR_performOp1C_15 (by decide) (by rw [q15_5]; decide) (by decide) ?_
              refine lv_aload_n hx hb d_AR_performOp1C_172 rfl (lv_at hl 1 rfl) ?_
              refine g_AR_core hc w mw_161 d_AR_performOp1C_173 ?_
              refine lv_aload_n hx hb d_AR_performOp1C_176 rfl (lv_at hl 1 rfl) ?_
              refine g_AR_core hc w mw_161 d_AR_performOp1C_177 ?_
              refine rVI (rest := [.ref (ad 5)]) hc w (c_CO_rd l E ad σ) kv_CO_rd mw_578 5 rfl rfl ⟨Nat.le_of_ble_eq_true rfl, Nat.le_of_ble_eq_true rfl⟩ hl.1 rfl (Nat.le_of_ble_eq_true rfl) ⟨Nat.zero_le _, Nat.zero_le _⟩ d_AR_performOp1C_180 (fun H locs w => ?_)
              refine lv_iload_n hx hb d_AR_performOp1C_183 rfl (lv_at hl 0 rfl) ?_
              refine rSI (rest := [.int (f_CO_rd σ), .ref (ad 5)]) hc w (c_IN_numberOfLeadingZeros l E ad σ (f_CO_s σ)) ks_IN_numberOfLeadingZeros mw_786 ⟨Nat.le_of_ble_eq_true rfl, Nat.le_of_ble_eq_true rfl⟩ hl.1 rfl (Nat.le_of_ble_eq_true rfl) ⟨Nat.zero_le _, Nat.zero_le _⟩ d_AR_performOp1C_184 (fun H locs w => ?_)
              refine cVI (rest := []) hc w (c_CO_put l E ad σ (f_CO_rd σ) (f_IN_numberOfLeadingZeros σ (f_CO_s σ))) kv_CO_put mw_583 5 rfl rfl ⟨Nat.le_of_ble_eq_true rfl, Nat.le_of_ble_eq_true rfl⟩ hl.1 rfl (Nat.le_of_ble_eq_true rfl) ⟨Nat.zero_le _, Nat.zero_le _⟩ d_AR_performOp1C_187 (fun z187 H locs hs187 w => ?_)
              have e_c6 : zI (f_AR_performOp1C_c6 z187  ) = Z := by rw [← e0, f_AR_performOp1C, if_neg q15_0, if_neg q15_1, if_neg q15_2, if_neg q15_3, if_neg q15_4, if_pos q15_5, hs187]
              exact rt_i hc w d_AR_performOp1C_190 (by rw [← e_c6, f_AR_performOp1C_c6] <;> rfl)
            · by_cases q15_6 : (f_CO_fn σ) = (33 : Int32)
              · refine lv_lookup (tgt := 191) (off := 176) hx hb d_AR_performOp1C_15 (by decide) (by rw [q15_6]; decide) (by decide) ?_
                refine lv_aload_n hx hb d_AR_performOp1C_191 rfl (lv_at hl 1 rfl) ?_
                refine g_AR_core hc w mw_161 d_AR_performOp1C_192 ?_
                refine lv_aload_n hx hb d_AR_performOp1C_195 rfl (lv_at hl 1 rfl) ?_
                refine g_AR_core hc w mw_161 d_AR_performOp1C_196 ?_
                refine rVI (rest := [.ref (ad 5)]) hc w (c_CO_rd l E ad σ) kv_CO_rd mw_578 5 rfl rfl ⟨Nat.le_of_ble_eq_true rfl, Nat.le_of_ble_eq_true rfl⟩ hl.1 rfl (Nat.le_of_ble_eq_true rfl) ⟨Nat.zero_le _, Nat.zero_le _⟩ d_AR_performOp1C_199 (fun H locs w => ?_)
                refine lv_iload_n hx hb d_AR_performOp1C_202 rfl (lv_at hl 0 rfl) ?_
                refine lv_iconst (v := -1) hx hb d_AR_performOp1C_203 (by decide) ?_
                refine lv_ixor hx hb d_AR_performOp1C_204 ?_
                refine rSI (rest := [.int (f_CO_rd σ), .ref (ad 5)]) hc w (c_IN_numberOfLeadingZeros l E ad σ ((f_CO_s σ) ^^^ (-1 : Int32))) ks_IN_numberOfLeadingZeros mw_786 ⟨Nat.le_of_ble_eq_true rfl, Nat.le_of_ble_eq_true rfl⟩ hl.1 rfl (Nat.le_of_ble_eq_true rfl) ⟨Nat.zero_le _, Nat.zero_le _⟩ d_AR_performOp1C_205 (fun H locs w => ?_)
                refine cVI (rest := []) hc w (c_CO_put l E ad σ (f_CO_rd σ) (f_IN_numberOfLeadingZeros σ ((f_CO_s σ) ^^^ (-1 : Int32)))) kv_CO_put mw_583 5 rfl rfl ⟨Nat.le_of_ble_eq_true rfl, Nat.le_of_ble_eq_true rfl⟩ hl.1 rfl (Nat.le_of_ble_eq_true rfl) ⟨Nat.zero_le _, Nat.zero_le _⟩ d_AR_performOp1C_208 (fun z208 H locs hs208 w => ?_)
                have e_c7 : zI (f_AR_performOp1C_c7 z208  ) = Z := by rw [← e0, f_AR_performOp1C, if_neg q15_0, if_neg q15_1, if_neg q15_2, if_neg q15_3, if_neg q15_4, if_neg q15_5, if_pos q15_6, hs208]
                exact rt_i hc w d_AR_performOp1C_211 (by rw [← e_c7, f_AR_performOp1C_c7] <;> rfl)
              · refine lv_lookup (tgt := 212) (off := 197) hx hb d_AR_performOp1C_15 (by decide) (by have k0 := ne_k q15_0 (n := 0) (by decide); have k1 := ne_k q15_1 (n := 1) (by decide); have k2 := ne_k q15_2 (n := 2) (by decide); have k3 := ne_k q15_3 (n := 4) (by decide); have k4 := ne_k q15_4 (n := 5) (by decide); have k5 := ne_k q15_5 (n := 32) (by decide); have k6 := ne_k q15_6 (n := 33) (by decide); simp [Op.lookupswitch.offset, k0, Ne.symm k0, k1, Ne.symm k1, k2, Ne.symm k2, k3, Ne.symm k3, k4, Ne.symm k4, k5, Ne.symm k5, k6, Ne.symm k6]) (by decide) ?_
                refine lv_bipush (v := 10) hx hb d_AR_performOp1C_212 (by decide) ?_
                exact rt_i hc w d_AR_performOp1C_214 (by rw [← e0, f_AR_performOp1C, if_neg q15_0, if_neg q15_1, if_neg q15_2, if_neg q15_3, if_neg q15_4, if_neg q15_5, if_neg q15_6] <;> rfl)
