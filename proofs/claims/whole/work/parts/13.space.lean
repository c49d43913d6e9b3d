-- AS_lastAsked
def f_AS_lastAsked (σ : XS) : Int32 := x_asked σ
theorem d_AS_lastAsked_0 : decode b_AS_lastAsked 0 = .ok (.aload_n 0, 1) := by decide +kernel
theorem d_AS_lastAsked_1 : decode b_AS_lastAsked 1 = .ok (.getfield 23, 3) := by decide +kernel
theorem d_AS_lastAsked_4 : decode b_AS_lastAsked 4 = .ok (.ireturn, 1) := by decide +kernel
set_option maxHeartbeats 4000000 in
set_option maxRecDepth 100000 in
theorem c_AS_lastAsked (l : Launch) (E : Ev) (ad : Nat → Nat) (σ : XS) : rC xCl l E (xW E ad) y_AS_lastAsked b_AS_lastAsked 1 (Option.some Jvm.ClassFile.FieldType.int) (rmo 0 0) [.ref (ad 4)] σ ((σ, some (Value.int (f_AS_lastAsked σ)))) := by
  refine rC.of (by decide) (Nat.le_of_ble_eq_true rfl) ?_
  intro p e s m below meth c A ls hc w hl
  generalize e0 : (σ, some (Value.int (f_AS_lastAsked σ))) = Z
  have hc : Cx xCl E A p s m ([.ref (ad 4)] : List Value).toArray meth c b_AS_lastAsked 1 (Option.some Jvm.ClassFile.FieldType.int) "PageMachine$AddressSpace" := hc
  have hx := hc.1
  have hb := hc.2.1
  have ho := hc.2.2.2.2.2.1
  have hT := hc.2.2.2.2.2.2.1
  have hl : lv_has ls 1 [(0, .ref (ad 4))] := hl
  refine lv_aload_n hx hb d_AS_lastAsked_0 rfl (lv_at hl 0 rfl) ?_
  refine g_AS_asked hc w mw_88 d_AS_lastAsked_1 ?_
  exact rt_i hc w d_AS_lastAsked_4 (by rw [← e0, f_AS_lastAsked] <;> rfl)
-- AS_faultIn
def f_AS_faultIn (σ : XS) (a1 : Int64) : Int32 := Int64.toInt32 ((-1 : Int64) - a1)
theorem d_AS_faultIn_0 : decode b_AS_faultIn 0 = .ok (.ldc2_w 27, 3) := by decide +kernel
theorem d_AS_faultIn_3 : decode b_AS_faultIn 3 = .ok (.lload_n 0, 1) := by decide +kernel
theorem d_AS_faultIn_4 : decode b_AS_faultIn 4 = .ok (.lsub, 1) := by decide +kernel
theorem d_AS_faultIn_5 : decode b_AS_faultIn 5 = .ok (.l2i, 1) := by decide +kernel
theorem d_AS_faultIn_6 : decode b_AS_faultIn 6 = .ok (.ireturn, 1) := by decide +kernel
set_option maxHeartbeats 4000000 in
set_option maxRecDepth 100000 in
theorem c_AS_faultIn (l : Launch) (E : Ev) (ad : Nat → Nat) (σ : XS) (a1 : Int64) : rC xCl l E (xW E ad) y_AS_faultIn b_AS_faultIn 2 (Option.some Jvm.ClassFile.FieldType.int) (rmo 0 0) [.long a1] σ ((σ, some (Value.int (f_AS_faultIn σ a1)))) := by
  refine rC.of (by decide) (Nat.le_of_ble_eq_true rfl) ?_
  intro p e s m below meth c A ls hc w hl
  generalize e0 : (σ, some (Value.int (f_AS_faultIn σ a1))) = Z
  have hc : Cx xCl E A p s m ([.long a1] : List Value).toArray meth c b_AS_faultIn 2 (Option.some Jvm.ClassFile.FieldType.int) "PageMachine$AddressSpace" := hc
  have hx := hc.1
  have hb := hc.2.1
  have ho := hc.2.2.2.2.2.1
  have hT := hc.2.2.2.2.2.2.1
  have hl : lv_has ls 2 [(0, .long a1)] := hl
  refine lv_ldc2 (v := -1) hx hb ho (hT _ mw_526) d_AS_faultIn_0 ?_
  refine lv_lload_n hx hb d_AS_faultIn_3 rfl (lv_at hl 0 rfl) ?_
  refine lv_lsub hx hb d_AS_faultIn_4 ?_
  refine lv_l2i hx hb d_AS_faultIn_5 rfl ?_
  exact rt_i hc w d_AS_faultIn_6 (by rw [← e0, f_AS_faultIn] <;> rfl)
-- AS_faulty
def f_AS_faulty (σ : XS) (a1 : Int32) : Int64 := Int32.toInt64 ((-1 : Int32) - a1)
theorem d_AS_faulty_0 : decode b_AS_faulty 0 = .ok (.iconst (-1), 1) := by decide +kernel
theorem d_AS_faulty_1 : decode b_AS_faulty 1 = .ok (.iload_n 0, 1) := by decide +kernel
theorem d_AS_faulty_2 : decode b_AS_faulty 2 = .ok (.isub, 1) := by decide +kernel
theorem d_AS_faulty_3 : decode b_AS_faulty 3 = .ok (.i2l, 1) := by decide +kernel
theorem d_AS_faulty_4 : decode b_AS_faulty 4 = .ok (.lreturn, 1) := by decide +kernel
set_option maxHeartbeats 4000000 in
set_option maxRecDepth 100000 in
theorem c_AS_faulty (l : Launch) (E : Ev) (ad : Nat → Nat) (σ : XS) (a1 : Int32) : rC xCl l E (xW E ad) y_AS_faulty b_AS_faulty 1 (Option.some Jvm.ClassFile.FieldType.long) (rmo 0 0) [.int a1] σ ((σ, some (Value.long (f_AS_faulty σ a1)))) := by
  refine rC.of (by decide) (Nat.le_of_ble_eq_true rfl) ?_
  intro p e s m below meth c A ls hc w hl
  generalize e0 : (σ, some (Value.long (f_AS_faulty σ a1))) = Z
  have hc : Cx xCl E A p s m ([.int a1] : List Value).toArray meth c b_AS_faulty 1 (Option.some Jvm.ClassFile.FieldType.long) "PageMachine$AddressSpace" := hc
  have hx := hc.1
  have hb := hc.2.1
  have ho := hc.2.2.2.2.2.1
  have hT := hc.2.2.2.2.2.2.1
  have hl : lv_has ls 1 [(0, .int a1)] := hl
  refine lv_iconst (v := -1) hx hb d_AS_faulty_0 (by decide) ?_
  refine lv_iload_n hx hb d_AS_faulty_1 rfl (lv_at hl 0 rfl) ?_
  refine lv_isub hx hb d_AS_faulty_2 ?_
  refine lv_i2l hx hb d_AS_faulty_3 rfl ?_
  exact rt_l hc w d_AS_faulty_4 (by rw [← e0, f_AS_faulty] <;> rfl)
-- AS_locateMapped
def f_AS_locateMapped_90 (σ : XS) (a1 : Int32) (a2 : Int32) (v90_5 : Int32) : Int64 := ((Int32.toInt64 ((Int32.toUInt32 v90_5 >>> (Int32.toUInt32 (6 : Int32) &&& Int32.toUInt32 31)).toInt32)) <<< (Int32.toInt64 (12 : Int32) &&& 63)) ||| (Int32.toInt64 (a1 &&& (4095 : Int32)))
def f_AS_locateMapped_10 (σ : XS) (a1 : Int32) (a2 : Int32) (w10_0 : Int32) : Int64 := if (f_TL_match σ a1 (f_SR_read σ (10 : Int32))) = (-1 : Int32) then (f_AS_faulty σ (w10_0 + (16 : Int32))) else (if ((f_TL_halfOf σ (f_TL_match σ a1 (f_SR_read σ (10 : Int32))) (((Int32.toUInt32 a1 >>> (Int32.toUInt32 (12 : Int32) &&& Int32.toUInt32 31)).toInt32) &&& (1 : Int32))) &&& (2 : Int32)) = 0 then (f_AS_faulty σ w10_0) else (if a2 = (1 : Int32) then (if ((f_TL_halfOf σ (f_TL_match σ a1 (f_SR_read σ (10 : Int32))) (((Int32.toUInt32 a1 >>> (Int32.toUInt32 (12 : Int32) &&& Int32.toUInt32 31)).toInt32) &&& (1 : Int32))) &&& (4 : Int32)) = 0 then (f_AS_faulty σ (1 : Int32)) else (f_AS_locateMapped_90 σ a1 a2 (f_TL_halfOf σ (f_TL_match σ a1 (f_SR_read σ (10 : Int32))) (((Int32.toUInt32 a1 >>> (Int32.toUInt32 (12 : Int32) &&& Int32.toUInt32 31)).toInt32) &&& (1 : Int32))))) else (f_AS_locateMapped_90 σ a1 a2 (f_TL_halfOf σ (f_TL_match σ a1 (f_SR_read σ (10 : Int32))) (((Int32.toUInt32 a1 >>> (Int32.toUInt32 (12 : Int32) &&& Int32.toUInt32 31)).toInt32) &&& (1 : Int32))))))
def f_AS_locateMapped (σ : XS) (a1 : Int32) (a2 : Int32) : Int64 := if a2 = (1 : Int32) then (f_AS_locateMapped_10 σ a1 a2 (3 : Int32)) else (f_AS_locateMapped_10 σ a1 a2 (2 : Int32))
theorem d_AS_locateMapped_0 : decode b_AS_locateMapped 0 = .ok (.iload_n 2, 1) := by decide +kernel
theorem d_AS_locateMapped_1 : decode b_AS_locateMapped 1 = .ok (.iconst 1, 1) := by decide +kernel
theorem d_AS_locateMapped_2 : decode b_AS_locateMapped 2 = .ok (.if_icmp .ne 7, 3) := by decide +kernel
theorem d_AS_locateMapped_5 : decode b_AS_locateMapped 5 = .ok (.iconst 3, 1) := by decide +kernel
theorem d_AS_locateMapped_6 : decode b_AS_locateMapped 6 = .ok (.goto 4, 3) := by decide +kernel
theorem d_AS_locateMapped_9 : decode b_AS_locateMapped 9 = .ok (.iconst 2, 1) := by decide +kernel
theorem d_AS_locateMapped_10 : decode b_AS_locateMapped 10 = .ok (.istore_n 3, 1) := by decide +kernel
theorem d_AS_locateMapped_11 : decode b_AS_locateMapped 11 = .ok (.aload_n 0, 1) := by decide +kernel
theorem d_AS_locateMapped_12 : decode b_AS_locateMapped 12 = .ok (.getfield 19, 3) := by decide +kernel
theorem d_AS_locateMapped_15 : decode b_AS_locateMapped 15 = .ok (.iload_n 1, 1) := by decide +kernel
theorem d_AS_locateMapped_16 : decode b_AS_locateMapped 16 = .ok (.aload_n 0, 1) := by decide +kernel
theorem d_AS_locateMapped_17 : decode b_AS_locateMapped 17 = .ok (.getfield 15, 3) := by decide +kernel
theorem d_AS_locateMapped_20 : decode b_AS_locateMapped 20 = .ok (.bipush 10, 2) := by decide +kernel
theorem d_AS_locateMapped_22 : decode b_AS_locateMapped 22 = .ok (.invokevirtual 55, 3) := by decide +kernel
theorem d_AS_locateMapped_25 : decode b_AS_locateMapped 25 = .ok (.invokevirtual 59, 3) := by decide +kernel
theorem d_AS_locateMapped_28 : decode b_AS_locateMapped 28 = .ok (.istore 4, 2) := by decide +kernel
theorem d_AS_locateMapped_30 : decode b_AS_locateMapped 30 = .ok (.iload 4, 2) := by decide +kernel
theorem d_AS_locateMapped_32 : decode b_AS_locateMapped 32 = .ok (.iconst (-1), 1) := by decide +kernel
theorem d_AS_locateMapped_33 : decode b_AS_locateMapped 33 = .ok (.if_icmp .ne 11, 3) := by decide +kernel
theorem d_AS_locateMapped_36 : decode b_AS_locateMapped 36 = .ok (.iload_n 3, 1) := by decide +kernel
theorem d_AS_locateMapped_37 : decode b_AS_locateMapped 37 = .ok (.bipush 16, 2) := by decide +kernel
theorem d_AS_locateMapped_39 : decode b_AS_locateMapped 39 = .ok (.iadd, 1) := by decide +kernel
theorem d_AS_locateMapped_40 : decode b_AS_locateMapped 40 = .ok (.invokestatic 31, 3) := by decide +kernel
theorem d_AS_locateMapped_43 : decode b_AS_locateMapped 43 = .ok (.lreturn, 1) := by decide +kernel
theorem d_AS_locateMapped_44 : decode b_AS_locateMapped 44 = .ok (.aload_n 0, 1) := by decide +kernel
theorem d_AS_locateMapped_45 : decode b_AS_locateMapped 45 = .ok (.getfield 19, 3) := by decide +kernel
theorem d_AS_locateMapped_48 : decode b_AS_locateMapped 48 = .ok (.iload 4, 2) := by decide +kernel
theorem d_AS_locateMapped_50 : decode b_AS_locateMapped 50 = .ok (.iload_n 1, 1) := by decide +kernel
theorem d_AS_locateMapped_51 : decode b_AS_locateMapped 51 = .ok (.bipush 12, 2) := by decide +kernel
theorem d_AS_locateMapped_53 : decode b_AS_locateMapped 53 = .ok (.iushr, 1) := by decide +kernel
theorem d_AS_locateMapped_54 : decode b_AS_locateMapped 54 = .ok (.iconst 1, 1) := by decide +kernel
theorem d_AS_locateMapped_55 : decode b_AS_locateMapped 55 = .ok (.iand, 1) := by decide +kernel
theorem d_AS_locateMapped_56 : decode b_AS_locateMapped 56 = .ok (.invokevirtual 65, 3) := by decide +kernel
theorem d_AS_locateMapped_59 : decode b_AS_locateMapped 59 = .ok (.istore 5, 2) := by decide +kernel
theorem d_AS_locateMapped_61 : decode b_AS_locateMapped 61 = .ok (.iload 5, 2) := by decide +kernel
theorem d_AS_locateMapped_63 : decode b_AS_locateMapped 63 = .ok (.iconst 2, 1) := by decide +kernel
theorem d_AS_locateMapped_64 : decode b_AS_locateMapped 64 = .ok (.iand, 1) := by decide +kernel
theorem d_AS_locateMapped_65 : decode b_AS_locateMapped 65 = .ok (.ifCond .ne 8, 3) := by decide +kernel
theorem d_AS_locateMapped_68 : decode b_AS_locateMapped 68 = .ok (.iload_n 3, 1) := by decide +kernel
theorem d_AS_locateMapped_69 : decode b_AS_locateMapped 69 = .ok (.invokestatic 31, 3) := by decide +kernel
theorem d_AS_locateMapped_72 : decode b_AS_locateMapped 72 = .ok (.lreturn, 1) := by decide +kernel
theorem d_AS_locateMapped_73 : decode b_AS_locateMapped 73 = .ok (.iload_n 2, 1) := by decide +kernel
theorem d_AS_locateMapped_74 : decode b_AS_locateMapped 74 = .ok (.iconst 1, 1) := by decide +kernel
theorem d_AS_locateMapped_75 : decode b_AS_locateMapped 75 = .ok (.if_icmp .ne 15, 3) := by decide +kernel
theorem d_AS_locateMapped_78 : decode b_AS_locateMapped 78 = .ok (.iload 5, 2) := by decide +kernel
theorem d_AS_locateMapped_80 : decode b_AS_locateMapped 80 = .ok (.iconst 4, 1) := by decide +kernel
theorem d_AS_locateMapped_81 : decode b_AS_locateMapped 81 = .ok (.iand, 1) := by decide +kernel
theorem d_AS_locateMapped_82 : decode b_AS_locateMapped 82 = .ok (.ifCond .ne 8, 3) := by decide +kernel
theorem d_AS_locateMapped_85 : decode b_AS_locateMapped 85 = .ok (.iconst 1, 1) := by decide +kernel
theorem d_AS_locateMapped_86 : decode b_AS_locateMapped 86 = .ok (.invokestatic 31, 3) := by decide +kernel
theorem d_AS_locateMapped_89 : decode b_AS_locateMapped 89 = .ok (.lreturn, 1) := by decide +kernel
theorem d_AS_locateMapped_90 : decode b_AS_locateMapped 90 = .ok (.iload 5, 2) := by decide +kernel
theorem d_AS_locateMapped_92 : decode b_AS_locateMapped 92 = .ok (.bipush 6, 2) := by decide +kernel
theorem d_AS_locateMapped_94 : decode b_AS_locateMapped 94 = .ok (.iushr, 1) := by decide +kernel
theorem d_AS_locateMapped_95 : decode b_AS_locateMapped 95 = .ok (.i2l, 1) := by decide +kernel
theorem d_AS_locateMapped_96 : decode b_AS_locateMapped 96 = .ok (.bipush 12, 2) := by decide +kernel
theorem d_AS_locateMapped_98 : decode b_AS_locateMapped 98 = .ok (.lshl, 1) := by decide +kernel
theorem d_AS_locateMapped_99 : decode b_AS_locateMapped 99 = .ok (.iload_n 1, 1) := by decide +kernel
theorem d_AS_locateMapped_100 : decode b_AS_locateMapped 100 = .ok (.sipush 4095, 3) := by decide +kernel
theorem d_AS_locateMapped_103 : decode b_AS_locateMapped 103 = .ok (.iand, 1) := by decide +kernel
theorem d_AS_locateMapped_104 : decode b_AS_locateMapped 104 = .ok (.i2l, 1) := by decide +kernel
theorem d_AS_locateMapped_105 : decode b_AS_locateMapped 105 = .ok (.lor, 1) := by decide +kernel
theorem d_AS_locateMapped_106 : decode b_AS_locateMapped 106 = .ok (.lreturn, 1) := by decide +kernel
set_option maxHeartbeats 4000000 in
set_option maxRecDepth 100000 in
theorem c_AS_locateMapped (l : Launch) (E : Ev) (ad : Nat → Nat) (σ : XS) (a1 : Int32) (a2 : Int32) : rC xCl l E (xW E ad) y_AS_locateMapped b_AS_locateMapped 6 (Option.some Jvm.ClassFile.FieldType.long) (rmo 1 25) [.ref (ad 4), .int a1, .int a2] σ ((σ, some (Value.long (f_AS_locateMapped σ a1 a2)))) := by
  refine rC.of (by decide) (Nat.le_of_ble_eq_true rfl) ?_
  intro p e s m below meth c A ls hc w hl
  generalize e0 : (σ, some (Value.long (f_AS_locateMapped σ a1 a2))) = Z
  have hc : Cx xCl E A p s m ([.ref (ad 4), .int a1, .int a2] : List Value).toArray meth c b_AS_locateMapped 6 (Option.some Jvm.ClassFile.FieldType.long) "PageMachine$AddressSpace" := hc
  have hx := hc.1
  have hb := hc.2.1
  have ho := hc.2.2.2.2.2.1
  have hT := hc.2.2.2.2.2.2.1
  have hl : lv_has ls 6 [(0, .ref (ad 4)), (1, .int a1), (2, .int a2)] := hl
  have J90 : ∀ (v90_5 : Int32) (H : Heap) (locs : List Loc) (ls : Array Slot), Wd xCl E A s.heap H locs (xW E ad σ) → lv_has ls 6 [(5, .int v90_5), (1, .int a1)] → (σ, some (Value.long (f_AS_locateMapped_90 σ a1 a2 v90_5))) = Z → W p l e (rmo 1 25) s m ([.ref (ad 4), .int a1, .int a2] : List Value).toArray below meth c H locs 0 0 (MQ below (rQ xCl (xW E ad) E A Z) ([.ref (ad 4), .int a1, .int a2] : List Value).toArray s 0 0 A) (F0 m 90 ls []) := by
    intro v90_5 H locs ls w hl e90
    refine lv_iload hx hb d_AS_locateMapped_90 (lv_at hl 0 rfl) ?_
    refine lv_bipush (v := 6) hx hb d_AS_locateMapped_92 (by decide) ?_
    refine lv_iushr hx hb d_AS_locateMapped_94 rfl ?_
    refine lv_i2l hx hb d_AS_locateMapped_95 rfl ?_
    refine lv_bipush (v := 12) hx hb d_AS_locateMapped_96 (by decide) ?_
    refine lv_lshl hx hb d_AS_locateMapped_98 rfl ?_
    refine lv_iload_n hx hb d_AS_locateMapped_99 rfl (lv_at hl 1 rfl) ?_
    refine lv_sipush (v := 4095) hx hb d_AS_locateMapped_100 (by decide) ?_
    refine lv_iand hx hb d_AS_locateMapped_103 ?_
    refine lv_i2l hx hb d_AS_locateMapped_104 rfl ?_
    refine lv_lor hx hb d_AS_locateMapped_105 ?_
    exact rt_l hc w d_AS_locateMapped_106 (by rw [← e90, f_AS_locateMapped_90] <;> rfl)
  have J10 : ∀ (w10_0 : Int32) (H : Heap) (locs : List Loc) (ls : Array Slot), Wd xCl E A s.heap H locs (xW E ad σ) → lv_has ls 6 [(0, .ref (ad 4)), (1, .int a1), (2, .int a2)] → (σ, some (Value.long (f_AS_locateMapped_10 σ a1 a2 w10_0))) = Z → W p l e (rmo 1 25) s m ([.ref (ad 4), .int a1, .int a2] : List Value).toArray below meth c H locs 0 0 (MQ below (rQ xCl (xW E ad) E A Z) ([.ref (ad 4), .int a1, .int a2] : List Value).toArray s 0 0 A) (F0 m 10 ls [.int w10_0]) := by
    intro w10_0 H locs ls w hl e10
    refine lv_istore_n (lv' := [(3, .int w10_0), (0, .ref (ad 4)), (1, .int a1), (2, .int a2)]) hx hb d_AS_locateMapped_10 rfl hl (by decide) rfl (fun ls hl => ?_)
    refine lv_aload_n hx hb d_AS_locateMapped_11 rfl (lv_at hl 1 rfl) ?_
    refine g_AS_tlb hc w mw_87 d_AS_locateMapped_12 ?_
    refine lv_iload_n hx hb d_AS_locateMapped_15 rfl (lv_at hl 2 rfl) ?_
    refine lv_aload_n hx hb d_AS_locateMapped_16 rfl (lv_at hl 1 rfl) ?_
    refine g_AS_system hc w mw_86 d_AS_locateMapped_17 ?_
    refine lv_bipush (v := 10) hx hb d_AS_locateMapped_20 (by decide) ?_
    refine rVI (rest := [.int a1, .ref (ad 3)]) hc w (c_SR_read l E ad σ (10 : Int32)) kv_SR_read mw_513 2 rfl rfl ⟨Nat.le_of_ble_eq_true rfl, Nat.le_of_ble_eq_true rfl⟩ hl.1 rfl (Nat.le_of_ble_eq_true rfl) ⟨Nat.zero_le _, Nat.zero_le _⟩ d_AS_locateMapped_22 (fun H locs w => ?_)
    refine rVI (rest := []) hc w (c_TL_match l E ad σ a1 (f_SR_read σ (10 : Int32))) kv_TL_match mw_514 3 rfl rfl ⟨Nat.le_of_ble_eq_true rfl, Nat.le_of_ble_eq_true rfl⟩ hl.1 rfl (Nat.le_of_ble_eq_true rfl) ⟨Nat.zero_le _, Nat.zero_le _⟩ d_AS_locateMapped_25 (fun H locs w => ?_)
    refine lv_istore (lv' := [(4, .int (f_TL_match σ a1 (f_SR_read σ (10 : Int32)))), (3, .int w10_0), (0, .ref (ad 4)), (1, .int a1), (2, .int a2)]) hx hb d_AS_locateMapped_28 hl (by decide) rfl (fun ls hl => ?_)
    refine lv_iload hx hb d_AS_locateMapped_30 (lv_at hl 0 rfl) ?_
    refine lv_iconst (v := -1) hx hb d_AS_locateMapped_32 (by decide) ?_
    refine lv_icmp_ne (tgt := 44) hx hb d_AS_locateMapped_33 (by decide) (fun q33 => ?_) (fun q33 => ?_)
    · refine lv_aload_n hx hb d_AS_locateMapped_44 rfl (lv_at hl 2 rfl) ?_
      refine g_AS_tlb hc w mw_87 d_AS_locateMapped_45 ?_
      refine lv_iload hx hb d_AS_locateMapped_48 (lv_at hl 0 rfl) ?_
      refine lv_iload_n hx hb d_AS_locateMapped_50 rfl (lv_at hl 3 rfl) ?_
      refine lv_bipush (v := 12) hx hb d_AS_locateMapped_51 (by decide) ?_
      refine lv_iushr hx hb d_AS_locateMapped_53 rfl ?_
      refine lv_iconst (v := 1) hx hb d_AS_locateMapped_54 (by decide) ?_
      refine lv_iand hx hb d_AS_locateMapped_55 ?_
      refine rVI (rest := []) hc w (c_TL_halfOf l E ad σ (f_TL_match σ a1 (f_SR_read σ (10 : Int32))) (((Int32.toUInt32 a1 >>> (Int32.toUInt32 (12 : Int32) &&& Int32.toUInt32 31)).toInt32) &&& (1 : Int32))) kv_TL_halfOf mw_518 3 rfl rfl ⟨Nat.le_of_ble_eq_true rfl, Nat.le_of_ble_eq_true rfl⟩ hl.1 rfl (Nat.le_of_ble_eq_true rfl) ⟨Nat.zero_le _, Nat.zero_le _⟩ d_AS_locateMapped_56 (fun H locs w => ?_)
      refine lv_istore (lv' := [(5, .int (f_TL_halfOf σ (f_TL_match σ a1 (f_SR_read σ (10 : Int32))) (((Int32.toUInt32 a1 >>> (Int32.toUInt32 (12 : Int32) &&& Int32.toUInt32 31)).toInt32) &&& (1 : Int32)))), (4, .int (f_TL_match σ a1 (f_SR_read σ (10 : Int32)))), (3, .int w10_0), (0, .ref (ad 4)), (1, .int a1), (2, .int a2)]) hx hb d_AS_locateMapped_59 hl (by decide) rfl (fun ls hl => ?_)
      refine lv_iload hx hb d_AS_locateMapped_61 (lv_at hl 0 rfl) ?_
      refine lv_iconst (v := 2) hx hb d_AS_locateMapped_63 (by decide) ?_
      refine lv_iand hx hb d_AS_locateMapped_64 ?_
      refine lv_if_ne (tgt := 73) hx hb d_AS_locateMapped_65 (by decide) (fun q65 => ?_) (fun q65 => ?_)
      · refine lv_iload_n hx hb d_AS_locateMapped_73 rfl (lv_at hl 5 rfl) ?_
        refine lv_iconst (v := 1) hx hb d_AS_locateMapped_74 (by decide) ?_
        refine lv_icmp_ne (tgt := 90) hx hb d_AS_locateMapped_75 (by decide) (fun q75 => ?_) (fun q75 => ?_)
        · exact J90 (f_TL_halfOf σ (f_TL_match σ a1 (f_SR_read σ (10 : Int32))) (((Int32.toUInt32 a1 >>> (Int32.toUInt32 (12 : Int32) &&& Int32.toUInt32 31)).toInt32) &&& (1 : Int32))) _ _ _ w (lv_sub hl [0, 4] rfl) (by rw [← e10, f_AS_locateMapped_10, if_neg q33, if_neg q65, if_neg q75])
        · refine lv_iload hx hb d_AS_locateMapped_78 (lv_at hl 0 rfl) ?_
          refine lv_iconst (v := 4) hx hb d_AS_locateMapped_80 (by decide) ?_
          refine lv_iand hx hb d_AS_locateMapped_81 ?_
          refine lv_if_ne (tgt := 90) hx hb d_AS_locateMapped_82 (by decide) (fun q82 => ?_) (fun q82 => ?_)
          · exact J90 (f_TL_halfOf σ (f_TL_match σ a1 (f_SR_read σ (10 : Int32))) (((Int32.toUInt32 a1 >>> (Int32.toUInt32 (12 : Int32) &&& Int32.toUInt32 31)).toInt32) &&& (1 : Int32))) _ _ _ w (lv_sub hl [0, 4] rfl) (by rw [← e10, f_AS_locateMapped_10, if_neg q33, if_neg q65, if_pos q75, if_neg q82])
          · refine lv_iconst (v := 1) hx hb d_AS_locateMapped_85 (by decide) ?_
            refine rSL (rest := []) hc w (c_AS_faulty l E ad σ (1 : Int32)) ks_AS_faulty mw_497 ⟨Nat.le_of_ble_eq_true rfl, Nat.le_of_ble_eq_true rfl⟩ hl.1 rfl (Nat.le_of_ble_eq_true rfl) ⟨Nat.zero_le _, Nat.zero_le _⟩ d_AS_locateMapped_86 (fun H locs w => ?_)
            exact rt_l hc w d_AS_locateMapped_89 (by rw [← e10, f_AS_locateMapped_10, if_neg q33, if_neg q65, if_pos q75, if_pos q82] <;> rfl)
      · refine lv_iload_n hx hb d_AS_locateMapped_68 rfl (lv_at hl 2 rfl) ?_
        refine rSL (rest := []) hc w (c_AS_faulty l E ad σ w10_0) ks_AS_faulty mw_497 ⟨Nat.le_of_ble_eq_true rfl, Nat.le_of_ble_eq_true rfl⟩ hl.1 rfl (Nat.le_of_ble_eq_true rfl) ⟨Nat.zero_le _, Nat.zero_le _⟩ d_AS_locateMapped_69 (fun H locs w => ?_)
        exact rt_l hc w d_AS_locateMapped_72 (by rw [← e10, f_AS_locateMapped_10, if_neg q33, if_pos q65] <;> rfl)
    · refine lv_iload_n hx hb d_AS_locateMapped_36 rfl (lv_at hl 1 rfl) ?_
      refine lv_bipush (v := 16) hx hb d_AS_locateMapped_37 (by decide) ?_
      refine lv_iadd hx hb d_AS_locateMapped_39 ?_
      refine rSL (rest := []) hc w (c_AS_faulty l E ad σ (w10_0 + (16 : Int32))) ks_AS_faulty mw_497 ⟨Nat.le_of_ble_eq_true rfl, Nat.le_of_ble_eq_true rfl⟩ hl.1 rfl (Nat.le_of_ble_eq_true rfl) ⟨Nat.zero_le _, Nat.zero_le _⟩ d_AS_locateMapped_40 (fun H locs w => ?_)
      exact rt_l hc w d_AS_locateMapped_43 (by rw [← e10, f_AS_locateMapped_10, if_pos q33] <;> rfl)
  refine lv_iload_n hx hb d_AS_locateMapped_0 rfl (lv_at hl 2 rfl) ?_
  refine lv_iconst (v := 1) hx hb d_AS_locateMapped_1 (by decide) ?_
  refine lv_icmp_ne (tgt := 9) hx hb d_AS_locateMapped_2 (by decide) (fun q2 => ?_) (fun q2 => ?_)
  · refine lv_iconst (v := 2) hx hb d_AS_locateMapped_9 (by decide) ?_
    exact J10 (2 : Int32) _ _ _ w (lv_sub hl [0, 1, 2] rfl) (by rw [← e0, f_AS_locateMapped, if_neg q2])
  · refine lv_iconst (v := 3) hx hb d_AS_locateMapped_5 (by decide) ?_
    refine lv_goto (tgt := 10) hx hb d_AS_locateMapped_6 (by decide) ?_
    exact J10 (3 : Int32) _ _ _ w (lv_sub hl [0, 1, 2] rfl) (by rw [← e0, f_AS_locateMapped, if_pos q2])
-- AS_locate
def f_AS_locate_93 (σ : XS) (a1 : Int32) (a2 : Int32) (w93_0 : Int32) : Int64 := f_AS_faulty σ w93_0
def f_AS_locate_60 (σ : XS) (a1 : Int32) (a2 : Int32) (w60_0 : Int64) : Int64 := if (lg_cmp w60_0 (0 : Int64)) < 0 then (w60_0) else (if (zb (f_ME_has σ w60_0)) = 0 then (if a2 = (2 : Int32) then (f_AS_locate_93 σ a1 a2 (6 : Int32)) else (f_AS_locate_93 σ a1 a2 (7 : Int32))) else (w60_0))
def f_AS_locate_41 (σ : XS) (a1 : Int32) (a2 : Int32) (w41_0 : Bool) : Int64 := if (zb w41_0) = 0 then (f_AS_locate_60 σ a1 a2 (f_AS_locateMapped σ a1 a2)) else (f_AS_locate_60 σ a1 a2 (Int32.toInt64 (a1 &&& (536870911 : Int32))))
def f_AS_locate_28 (σ : XS) (a1 : Int32) (a2 : Int32) : Int64 := if ((Int32.toUInt32 a1 >>> (Int32.toUInt32 (30 : Int32) &&& Int32.toUInt32 31)).toInt32) = (2 : Int32) then (f_AS_locate_41 σ a1 a2 true) else (f_AS_locate_41 σ a1 a2 false)
def f_AS_locate_24 (σ : XS) (a1 : Int32) (a2 : Int32) (w24_0 : Int32) : Int64 := f_AS_faulty σ w24_0
def f_AS_locate (σ : XS) (a1 : Int32) (a2 : Int32) : Int64 := if 0 ≤ a1 then (f_AS_locate_28 σ a1 a2) else (if (zb (f_SR_inUserMode σ)) = 0 then (f_AS_locate_28 σ a1 a2) else (if a2 = (1 : Int32) then (f_AS_locate_24 σ a1 a2 (5 : Int32)) else (f_AS_locate_24 σ a1 a2 (4 : Int32))))
theorem d_AS_locate_0 : decode b_AS_locate 0 = .ok (.iload_n 1, 1) := by decide +kernel
theorem d_AS_locate_1 : decode b_AS_locate 1 = .ok (.ifCond .ge 27, 3) := by decide +kernel
theorem d_AS_locate_4 : decode b_AS_locate 4 = .ok (.aload_n 0, 1) := by decide +kernel
theorem d_AS_locate_5 : decode b_AS_locate 5 = .ok (.getfield 15, 3) := by decide +kernel
theorem d_AS_locate_8 : decode b_AS_locate 8 = .ok (.invokevirtual 39, 3) := by decide +kernel
theorem d_AS_locate_11 : decode b_AS_locate 11 = .ok (.ifCond .eq 17, 3) := by decide +kernel
theorem d_AS_locate_14 : decode b_AS_locate 14 = .ok (.iload_n 2, 1) := by decide +kernel
theorem d_AS_locate_15 : decode b_AS_locate 15 = .ok (.iconst 1, 1) := by decide +kernel
theorem d_AS_locate_16 : decode b_AS_locate 16 = .ok (.if_icmp .ne 7, 3) := by decide +kernel
theorem d_AS_locate_19 : decode b_AS_locate 19 = .ok (.iconst 5, 1) := by decide +kernel
theorem d_AS_locate_20 : decode b_AS_locate 20 = .ok (.goto 4, 3) := by decide +kernel
theorem d_AS_locate_23 : decode b_AS_locate 23 = .ok (.iconst 4, 1) := by decide +kernel
theorem d_AS_locate_24 : decode b_AS_locate 24 = .ok (.invokestatic 31, 3) := by decide +kernel
theorem d_AS_locate_27 : decode b_AS_locate 27 = .ok (.lreturn, 1) := by decide +kernel
theorem d_AS_locate_28 : decode b_AS_locate 28 = .ok (.iload_n 1, 1) := by decide +kernel
theorem d_AS_locate_29 : decode b_AS_locate 29 = .ok (.bipush 30, 2) := by decide +kernel
theorem d_AS_locate_31 : decode b_AS_locate 31 = .ok (.iushr, 1) := by decide +kernel
theorem d_AS_locate_32 : decode b_AS_locate 32 = .ok (.iconst 2, 1) := by decide +kernel
theorem d_AS_locate_33 : decode b_AS_locate 33 = .ok (.if_icmp .ne 7, 3) := by decide +kernel
theorem d_AS_locate_36 : decode b_AS_locate 36 = .ok (.iconst 1, 1) := by decide +kernel
theorem d_AS_locate_37 : decode b_AS_locate 37 = .ok (.goto 4, 3) := by decide +kernel
theorem d_AS_locate_40 : decode b_AS_locate 40 = .ok (.iconst 0, 1) := by decide +kernel
theorem d_AS_locate_41 : decode b_AS_locate 41 = .ok (.istore_n 3, 1) := by decide +kernel
theorem d_AS_locate_42 : decode b_AS_locate 42 = .ok (.iload_n 3, 1) := by decide +kernel
theorem d_AS_locate_43 : decode b_AS_locate 43 = .ok (.ifCond .eq 11, 3) := by decide +kernel
theorem d_AS_locate_46 : decode b_AS_locate 46 = .ok (.iload_n 1, 1) := by decide +kernel
theorem d_AS_locate_47 : decode b_AS_locate 47 = .ok (.ldc 45, 2) := by decide +kernel
theorem d_AS_locate_49 : decode b_AS_locate 49 = .ok (.iand, 1) := by decide +kernel
theorem d_AS_locate_50 : decode b_AS_locate 50 = .ok (.i2l, 1) := by decide +kernel
theorem d_AS_locate_51 : decode b_AS_locate 51 = .ok (.goto 9, 3) := by decide +kernel
theorem d_AS_locate_54 : decode b_AS_locate 54 = .ok (.aload_n 0, 1) := by decide +kernel
theorem d_AS_locate_55 : decode b_AS_locate 55 = .ok (.iload_n 1, 1) := by decide +kernel
theorem d_AS_locate_56 : decode b_AS_locate 56 = .ok (.iload_n 2, 1) := by decide +kernel
theorem d_AS_locate_57 : decode b_AS_locate 57 = .ok (.invokevirtual 46, 3) := by decide +kernel
theorem d_AS_locate_60 : decode b_AS_locate 60 = .ok (.lstore 4, 2) := by decide +kernel
theorem d_AS_locate_62 : decode b_AS_locate 62 = .ok (.lload 4, 2) := by decide +kernel
theorem d_AS_locate_64 : decode b_AS_locate 64 = .ok (.lconst 0, 1) := by decide +kernel
theorem d_AS_locate_65 : decode b_AS_locate 65 = .ok (.lcmp, 1) := by decide +kernel
theorem d_AS_locate_66 : decode b_AS_locate 66 = .ok (.ifCond .lt 31, 3) := by decide +kernel
theorem d_AS_locate_69 : decode b_AS_locate 69 = .ok (.aload_n 0, 1) := by decide +kernel
theorem d_AS_locate_70 : decode b_AS_locate 70 = .ok (.getfield 9, 3) := by decide +kernel
theorem d_AS_locate_73 : decode b_AS_locate 73 = .ok (.lload 4, 2) := by decide +kernel
theorem d_AS_locate_75 : decode b_AS_locate 75 = .ok (.invokevirtual 49, 3) := by decide +kernel
theorem d_AS_locate_78 : decode b_AS_locate 78 = .ok (.ifCond .ne 19, 3) := by decide +kernel
theorem d_AS_locate_81 : decode b_AS_locate 81 = .ok (.iload_n 2, 1) := by decide +kernel
theorem d_AS_locate_82 : decode b_AS_locate 82 = .ok (.iconst 2, 1) := by decide +kernel
theorem d_AS_locate_83 : decode b_AS_locate 83 = .ok (.if_icmp .ne 8, 3) := by decide +kernel
theorem d_AS_locate_86 : decode b_AS_locate 86 = .ok (.bipush 6, 2) := by decide +kernel
theorem d_AS_locate_88 : decode b_AS_locate 88 = .ok (.goto 5, 3) := by decide +kernel
theorem d_AS_locate_91 : decode b_AS_locate 91 = .ok (.bipush 7, 2) := by decide +kernel
theorem d_AS_locate_93 : decode b_AS_locate 93 = .ok (.invokestatic 31, 3) := by decide +kernel
theorem d_AS_locate_96 : decode b_AS_locate 96 = .ok (.lreturn, 1) := by decide +kernel
theorem d_AS_locate_97 : decode b_AS_locate 97 = .ok (.lload 4, 2) := by decide +kernel
theorem d_AS_locate_99 : decode b_AS_locate 99 = .ok (.lreturn, 1) := by decide +kernel
set_option maxHeartbeats 4000000 in
set_option maxRecDepth 100000 in
theorem c_AS_locate (l : Launch) (E : Ev) (ad : Nat → Nat) (σ : XS) (a1 : Int32) (a2 : Int32) : rC xCl l E (xW E ad) y_AS_locate b_AS_locate 6 (Option.some Jvm.ClassFile.FieldType.long) (rmo 2 50) [.ref (ad 4), .int a1, .int a2] σ ((σ, some (Value.long (f_AS_locate σ a1 a2)))) := by
  refine rC.of (by decide) (Nat.le_of_ble_eq_true rfl) ?_
  intro p e s m below meth c A ls hc w hl
  generalize e0 : (σ, some (Value.long (f_AS_locate σ a1 a2))) = Z
  have hc : Cx xCl E A p s m ([.ref (ad 4), .int a1, .int a2] : List Value).toArray meth c b_AS_locate 6 (Option.some Jvm.ClassFile.FieldType.long) "PageMachine$AddressSpace" := hc
  have hx := hc.1
  have hb := hc.2.1
  have ho := hc.2.2.2.2.2.1
  have hT := hc.2.2.2.2.2.2.1
  have hl : lv_has ls 6 [(0, .ref (ad 4)), (1, .int a1), (2, .int a2)] := hl
  have J93 : ∀ (w93_0 : Int32) (H : Heap) (locs : List Loc) (ls : Array Slot), Wd xCl E A s.heap H locs (xW E ad σ) → lv_has ls 6 [] → (σ, some (Value.long (f_AS_locate_93 σ a1 a2 w93_0))) = Z → W p l e (rmo 2 50) s m ([.ref (ad 4), .int a1, .int a2] : List Value).toArray below meth c H locs 0 0 (MQ below (rQ xCl (xW E ad) E A Z) ([.ref (ad 4), .int a1, .int a2] : List Value).toArray s 0 0 A) (F0 m 93 ls [.int w93_0]) := by
    intro w93_0 H locs ls w hl e93
    refine rSL (rest := []) hc w (c_AS_faulty l E ad σ w93_0) ks_AS_faulty mw_497 ⟨Nat.le_of_ble_eq_true rfl, Nat.le_of_ble_eq_true rfl⟩ hl.1 rfl (Nat.le_of_ble_eq_true rfl) ⟨Nat.zero_le _, Nat.zero_le _⟩ d_AS_locate_93 (fun H locs w => ?_)
    exact rt_l hc w d_AS_locate_96 (by rw [← e93, f_AS_locate_93] <;> rfl)
  have J60 : ∀ (w60_0 : Int64) (H : Heap) (locs : List Loc) (ls : Array Slot), Wd xCl E A s.heap H locs (xW E ad σ) → lv_has ls 6 [(0, .ref (ad 4)), (2, .int a2)] → (σ, some (Value.long (f_AS_locate_60 σ a1 a2 w60_0))) = Z → W p l e (rmo 2 50) s m ([.ref (ad 4), .int a1, .int a2] : List Value).toArray below meth c H locs 0 0 (MQ below (rQ xCl (xW E ad) E A Z) ([.ref (ad 4), .int a1, .int a2] : List Value).toArray s 0 0 A) (F0 m 60 ls [.long w60_0]) := by
    intro w60_0 H locs ls w hl e60
    refine lv_lstore (lv' := [(4, .long w60_0), (0, .ref (ad 4)), (2, .int a2)]) hx hb d_AS_locate_60 hl (by decide) rfl (fun ls hl => ?_)
    refine lv_lload hx hb d_AS_locate_62 (lv_at hl 0 rfl) ?_
    refine lv_lconst (v := 0) hx hb d_AS_locate_64 (by decide) ?_
    refine W.lcmp hx hb d_AS_locate_65 ?_
    refine lv_if_lt (tgt := 97) hx hb d_AS_locate_66 (by decide) (fun q66 => ?_) (fun q66 => ?_)
    · refine lv_lload hx hb d_AS_locate_97 (lv_at hl 0 rfl) ?_
      exact rt_l hc w d_AS_locate_99 (by rw [← e60, f_AS_locate_60, if_pos q66] <;> rfl)
    · refine lv_aload_n hx hb d_AS_locate_69 rfl (lv_at hl 1 rfl) ?_
      refine g_AS_memory hc w mw_85 d_AS_locate_70 ?_
      refine lv_lload hx hb d_AS_locate_73 (lv_at hl 0 rfl) ?_
      refine rVZ (rest := []) hc w (c_ME_has l E ad σ w60_0) kv_ME_has mw_522 1 rfl rfl ⟨Nat.le_of_ble_eq_true rfl, Nat.le_of_ble_eq_true rfl⟩ hl.1 rfl (Nat.le_of_ble_eq_true rfl) ⟨Nat.zero_le _, Nat.zero_le _⟩ d_AS_locate_75 (fun H locs w => ?_)
      refine lv_if_ne (tgt := 97) hx hb d_AS_locate_78 (by decide) (fun q78 => ?_) (fun q78 => ?_)
      · refine lv_lload hx hb d_AS_locate_97 (lv_at hl 0 rfl) ?_
        exact rt_l hc w d_AS_locate_99 (by rw [← e60, f_AS_locate_60, if_neg q66, if_neg q78] <;> rfl)
      · refine lv_iload_n hx hb d_AS_locate_81 rfl (lv_at hl 2 rfl) ?_
        refine lv_iconst (v := 2) hx hb d_AS_locate_82 (by decide) ?_
        refine lv_icmp_ne (tgt := 91) hx hb d_AS_locate_83 (by decide) (fun q83 => ?_) (fun q83 => ?_)
        · refine lv_bipush (v := 7) hx hb d_AS_locate_91 (by decide) ?_
          exact J93 (7 : Int32) _ _ _ w (lv_sub hl [] rfl) (by rw [← e60, f_AS_locate_60, if_neg q66, if_pos q78, if_neg q83])
        · refine lv_bipush (v := 6) hx hb d_AS_locate_86 (by decide) ?_
          refine lv_goto (tgt := 93) hx hb d_AS_locate_88 (by decide) ?_
          exact J93 (6 : Int32) _ _ _ w (lv_sub hl [] rfl) (by rw [← e60, f_AS_locate_60, if_neg q66, if_pos q78, if_pos q83])
  have J41 : ∀ (w41_0 : Bool) (H : Heap) (locs : List Loc) (ls : Array Slot), Wd xCl E A s.heap H locs (xW E ad σ) → lv_has ls 6 [(0, .ref (ad 4)), (1, .int a1), (2, .int a2)] → (σ, some (Value.long (f_AS_locate_41 σ a1 a2 w41_0))) = Z → W p l e (rmo 2 50) s m ([.ref (ad 4), .int a1, .int a2] : List Value).toArray below meth c H locs 0 0 (MQ below (rQ xCl (xW E ad) E A Z) ([.ref (ad 4), .int a1, .int a2] : List Value).toArray s 0 0 A) (F0 m 41 ls [.int (zb w41_0)]) := by
    intro w41_0 H locs ls w hl e41
    refine lv_istore_n (lv' := [(3, .int (zb w41_0)), (0, .ref (ad 4)), (1, .int a1), (2, .int a2)]) hx hb d_AS_locate_41 rfl hl (by decide) rfl (fun ls hl => ?_)
    refine lv_iload_n hx hb d_AS_locate_42 rfl (lv_at hl 0 rfl) ?_
    refine lv_if_eq (tgt := 54) hx hb d_AS_locate_43 (by decide) (fun q43 => ?_) (fun q43 => ?_)
    · refine lv_aload_n hx hb d_AS_locate_54 rfl (lv_at hl 1 rfl) ?_
      refine lv_iload_n hx hb d_AS_locate_55 rfl (lv_at hl 2 rfl) ?_
      refine lv_iload_n hx hb d_AS_locate_56 rfl (lv_at hl 3 rfl) ?_
      refine rVL (rest := []) hc w (c_AS_locateMapped l E ad σ a1 a2) kv_AS_locateMapped mw_509 4 rfl rfl ⟨Nat.le_of_ble_eq_true rfl, Nat.le_of_ble_eq_true rfl⟩ hl.1 rfl (Nat.le_of_ble_eq_true rfl) ⟨Nat.zero_le _, Nat.zero_le _⟩ d_AS_locate_57 (fun H locs w => ?_)
      exact J60 (f_AS_locateMapped σ a1 a2) _ _ _ w (lv_sub hl [1, 3] rfl) (by rw [← e41, f_AS_locate_41, if_pos q43])
    · refine lv_iload_n hx hb d_AS_locate_46 rfl (lv_at hl 2 rfl) ?_
      refine lv_ldc (v := 536870911) hx hb ho (hT _ mw_508) d_AS_locate_47 ?_
      refine lv_iand hx hb d_AS_locate_49 ?_
      refine lv_i2l hx hb d_AS_locate_50 rfl ?_
      refine lv_goto (tgt := 60) hx hb d_AS_locate_51 (by decide) ?_
      exact J60 (Int32.toInt64 (a1 &&& (536870911 : Int32))) _ _ _ w (lv_sub hl [1, 3] rfl) (by rw [← e41, f_AS_locate_41, if_neg q43])
  have J28 : ∀ (H : Heap) (locs : List Loc) (ls : Array Slot), Wd xCl E A s.heap H locs (xW E ad σ) → lv_has ls 6 [(0, .ref (ad 4)), (1, .int a1), (2, .int a2)] → (σ, some (Value.long (f_AS_locate_28 σ a1 a2))) = Z → W p l e (rmo 2 50) s m ([.ref (ad 4), .int a1, .int a2] : List Value).toArray below meth c H locs 0 0 (MQ below (rQ xCl (xW E ad) E A Z) ([.ref (ad 4), .int a1, .int a2] : List Value).toArray s 0 0 A) (F0 m 28 ls []) := by
    intro  H locs ls w hl e28
    refine lv_iload_n hx hb d_AS_locate_28 rfl (lv_at hl 1 rfl) ?_
    refine lv_bipush (v := 30) hx hb d_AS_locate_29 (by decide) ?_
    refine lv_iushr hx hb d_AS_locate_31 rfl ?_
    refine lv_iconst (v := 2) hx hb d_AS_locate_32 (by decide) ?_
    refine lv_icmp_ne (tgt := 40) hx hb d_AS_locate_33 (by decide) (fun q33 => ?_) (fun q33 => ?_)
    · refine lv_iconst (v := 0) hx hb d_AS_locate_40 (by decide) ?_
      exact J41 false _ _ _ w (lv_sub hl [0, 1, 2] rfl) (by rw [← e28, f_AS_locate_28, if_neg q33])
    · refine lv_iconst (v := 1) hx hb d_AS_locate_36 (by decide) ?_
      refine lv_goto (tgt := 41) hx hb d_AS_locate_37 (by decide) ?_
      exact J41 true _ _ _ w (lv_sub hl [0, 1, 2] rfl) (by rw [← e28, f_AS_locate_28, if_pos q33])
  have J24 : ∀ (w24_0 : Int32) (H : Heap) (locs : List Loc) (ls : Array Slot), Wd xCl E A s.heap H locs (xW E ad σ) → lv_has ls 6 [] → (σ, some (Value.long (f_AS_locate_24 σ a1 a2 w24_0))) = Z → W p l e (rmo 2 50) s m ([.ref (ad 4), .int a1, .int a2] : List Value).toArray below meth c H locs 0 0 (MQ below (rQ xCl (xW E ad) E A Z) ([.ref (ad 4), .int a1, .int a2] : List Value).toArray s 0 0 A) (F0 m 24 ls [.int w24_0]) := by
    intro w24_0 H locs ls w hl e24
    refine rSL (rest := []) hc w (c_AS_faulty l E ad σ w24_0) ks_AS_faulty mw_497 ⟨Nat.le_of_ble_eq_true rfl, Nat.le_of_ble_eq_true rfl⟩ hl.1 rfl (Nat.le_of_ble_eq_true rfl) ⟨Nat.zero_le _, Nat.zero_le _⟩ d_AS_locate_24 (fun H locs w => ?_)
    exact rt_l hc w d_AS_locate_27 (by rw [← e24, f_AS_locate_24] <;> rfl)
  refine lv_iload_n hx hb d_AS_locate_0 rfl (lv_at hl 1 rfl) ?_
  refine lv_if_ge (tgt := 28) hx hb d_AS_locate_1 (by decide) (fun q1 => ?_) (fun q1 => ?_)
  · exact J28  _ _ _ w (lv_sub hl [0, 1, 2] rfl) (by rw [← e0, f_AS_locate, if_pos q1])
  · refine lv_aload_n hx hb d_AS_locate_4 rfl (lv_at hl 0 rfl) ?_
    refine g_AS_system hc w mw_86 d_AS_locate_5 ?_
    refine rVZ (rest := []) hc w (c_SR_inUserMode l E ad σ) kv_SR_inUserMode mw_504 2 rfl rfl ⟨Nat.le_of_ble_eq_true rfl, Nat.le_of_ble_eq_true rfl⟩ hl.1 rfl (Nat.le_of_ble_eq_true rfl) ⟨Nat.zero_le _, Nat.zero_le _⟩ d_AS_locate_8 (fun H locs w => ?_)
    refine lv_if_eq (tgt := 28) hx hb d_AS_locate_11 (by decide) (fun q11 => ?_) (fun q11 => ?_)
    · exact J28  _ _ _ w (lv_sub hl [0, 1, 2] rfl) (by rw [← e0, f_AS_locate, if_neg q1, if_pos q11])
    · refine lv_iload_n hx hb d_AS_locate_14 rfl (lv_at hl 2 rfl) ?_
      refine lv_iconst (v := 1) hx hb d_AS_locate_15 (by decide) ?_
      refine lv_icmp_ne (tgt := 23) hx hb d_AS_locate_16 (by decide) (fun q16 => ?_) (fun q16 => ?_)
      · refine lv_iconst (v := 4) hx hb d_AS_locate_23 (by decide) ?_
        exact J24 (4 : Int32) _ _ _ w (lv_sub hl [] rfl) (by rw [← e0, f_AS_locate, if_neg q1, if_neg q11, if_neg q16])
      · refine lv_iconst (v := 5) hx hb d_AS_locate_19 (by decide) ?_
        refine lv_goto (tgt := 24) hx hb d_AS_locate_20 (by decide) ?_
        exact J24 (5 : Int32) _ _ _ w (lv_sub hl [] rfl) (by rw [← e0, f_AS_locate, if_neg q1, if_neg q11, if_pos q16])
-- AS_locateAligned
def f_AS_locateAligned_21 (σ21 : XS) (a1 : Int32) (a2 : Int32) (a3 : Int32) (w21_0 : Int32) : XS × Int64 := (σ21, f_AS_faulty σ21 w21_0)
def f_AS_locateAligned_c1 (σ2 : XS) (a1 : Int32) (a2 : Int32) (a3 : Int32)  : XS × Int64 := if (a1 &&& a3) = 0 then ((σ2, f_AS_locate σ2 a1 a2)) else (if a2 = (1 : Int32) then (f_AS_locateAligned_21 σ2 a1 a2 a3 (5 : Int32)) else (f_AS_locateAligned_21 σ2 a1 a2 a3 (4 : Int32)))
def f_AS_locateAligned (σ : XS) (a1 : Int32) (a2 : Int32) (a3 : Int32) : XS × Int64 := f_AS_locateAligned_c1 (xs_asked σ a1) a1 a2 a3 
theorem d_AS_locateAligned_0 : decode b_AS_locateAligned 0 = .ok (.aload_n 0, 1) := by decide +kernel
theorem d_AS_locateAligned_1 : decode b_AS_locateAligned 1 = .ok (.iload_n 1, 1) := by decide +kernel
theorem d_AS_locateAligned_2 : decode b_AS_locateAligned 2 = .ok (.putfield 23, 3) := by decide +kernel
theorem d_AS_locateAligned_5 : decode b_AS_locateAligned 5 = .ok (.iload_n 1, 1) := by decide +kernel
theorem d_AS_locateAligned_6 : decode b_AS_locateAligned 6 = .ok (.iload_n 3, 1) := by decide +kernel
theorem d_AS_locateAligned_7 : decode b_AS_locateAligned 7 = .ok (.iand, 1) := by decide +kernel
theorem d_AS_locateAligned_8 : decode b_AS_locateAligned 8 = .ok (.ifCond .eq 17, 3) := by decide +kernel
theorem d_AS_locateAligned_11 : decode b_AS_locateAligned 11 = .ok (.iload_n 2, 1) := by decide +kernel
theorem d_AS_locateAligned_12 : decode b_AS_locateAligned 12 = .ok (.iconst 1, 1) := by decide +kernel
theorem d_AS_locateAligned_13 : decode b_AS_locateAligned 13 = .ok (.if_icmp .ne 7, 3) := by decide +kernel
theorem d_AS_locateAligned_16 : decode b_AS_locateAligned 16 = .ok (.iconst 5, 1) := by decide +kernel
theorem d_AS_locateAligned_17 : decode b_AS_locateAligned 17 = .ok (.goto 4, 3) := by decide +kernel
theorem d_AS_locateAligned_20 : decode b_AS_locateAligned 20 = .ok (.iconst 4, 1) := by decide +kernel
theorem d_AS_locateAligned_21 : decode b_AS_locateAligned 21 = .ok (.invokestatic 31, 3) := by decide +kernel
theorem d_AS_locateAligned_24 : decode b_AS_locateAligned 24 = .ok (.lreturn, 1) := by decide +kernel
theorem d_AS_locateAligned_25 : decode b_AS_locateAligned 25 = .ok (.aload_n 0, 1) := by decide +kernel
theorem d_AS_locateAligned_26 : decode b_AS_locateAligned 26 = .ok (.iload_n 1, 1) := by decide +kernel
theorem d_AS_locateAligned_27 : decode b_AS_locateAligned 27 = .ok (.iload_n 2, 1) := by decide +kernel
theorem d_AS_locateAligned_28 : decode b_AS_locateAligned 28 = .ok (.invokevirtual 35, 3) := by decide +kernel
theorem d_AS_locateAligned_31 : decode b_AS_locateAligned 31 = .ok (.lreturn, 1) := by decide +kernel
set_option maxHeartbeats 4000000 in
set_option maxRecDepth 100000 in
theorem c_AS_locateAligned (l : Launch) (E : Ev) (ad : Nat → Nat) (σ : XS) (a1 : Int32) (a2 : Int32) (a3 : Int32) : rC xCl l E (xW E ad) y_AS_locateAligned b_AS_locateAligned 4 (Option.some Jvm.ClassFile.FieldType.long) (rmo 3 75) [.ref (ad 4), .int a1, .int a2, .int a3] σ (zL (f_AS_locateAligned σ a1 a2 a3)) := by
  refine rC.of (by decide) (Nat.le_of_ble_eq_true rfl) ?_
  intro p e s m below meth c A ls hc w hl
  generalize e0 : zL (f_AS_locateAligned σ a1 a2 a3) = Z
  have hc : Cx xCl E A p s m ([.ref (ad 4), .int a1, .int a2, .int a3] : List Value).toArray meth c b_AS_locateAligned 4 (Option.some Jvm.ClassFile.FieldType.long) "PageMachine$AddressSpace" := hc
  have hx := hc.1
  have hb := hc.2.1
  have ho := hc.2.2.2.2.2.1
  have hT := hc.2.2.2.2.2.2.1
  have hl : lv_has ls 4 [(0, .ref (ad 4)), (1, .int a1), (2, .int a2), (3, .int a3)] := hl
  have J21 : ∀ (σ21 : XS) (w21_0 : Int32) (H : Heap) (locs : List Loc) (ls : Array Slot), Wd xCl E A s.heap H locs (xW E ad σ21) → lv_has ls 4 [] → zL (f_AS_locateAligned_21 σ21 a1 a2 a3 w21_0) = Z → W p l e (rmo 3 75) s m ([.ref (ad 4), .int a1, .int a2, .int a3] : List Value).toArray below meth c H locs 0 0 (MQ below (rQ xCl (xW E ad) E A Z) ([.ref (ad 4), .int a1, .int a2, .int a3] : List Value).toArray s 0 0 A) (F0 m 21 ls [.int w21_0]) := by
    intro σ21 w21_0 H locs ls w hl e21
    refine rSL (rest := []) hc w (c_AS_faulty l E ad σ21 w21_0) ks_AS_faulty mw_497 ⟨Nat.le_of_ble_eq_true rfl, Nat.le_of_ble_eq_true rfl⟩ hl.1 rfl (Nat.le_of_ble_eq_true rfl) ⟨Nat.zero_le _, Nat.zero_le _⟩ d_AS_locateAligned_21 (fun H locs w => ?_)
    exact rt_l hc w d_AS_locateAligned_24 (by rw [← e21, f_AS_locateAligned_21] <;> rfl)
  refine lv_aload_n hx hb d_AS_locateAligned_0 rfl (lv_at hl 0 rfl) ?_
  refine lv_iload_n hx hb d_AS_locateAligned_1 rfl (lv_at hl 1 rfl) ?_
  refine p_AS_asked hc w mw_88 d_AS_locateAligned_2 (fun σ2 H locs hs2 w => ?_)
  have e_c1 : zL (f_AS_locateAligned_c1 σ2 a1 a2 a3 ) = Z := by rw [← e0, f_AS_locateAligned, hs2]
  refine lv_iload_n hx hb d_AS_locateAligned_5 rfl (lv_at hl 1 rfl) ?_
  refine lv_iload_n hx hb d_AS_locateAligned_6 rfl (lv_at hl 3 rfl) ?_
  refine lv_iand hx hb d_AS_locateAligned_7 ?_
  refine lv_if_eq (tgt := 25) hx hb d_AS_locateAligned_8 (by decide) (fun q8 => ?_) (fun q8 => ?_)
  · refine lv_aload_n hx hb d_AS_locateAligned_25 rfl (lv_at hl 0 rfl) ?_
    refine lv_iload_n hx hb d_AS_locateAligned_26 rfl (lv_at hl 1 rfl) ?_
    refine lv_iload_n hx hb d_AS_locateAligned_27 rfl (lv_at hl 2 rfl) ?_
    refine rVL (rest := []) hc w (c_AS_locate l E ad σ2 a1 a2) kv_AS_locate mw_500 4 rfl rfl ⟨Nat.le_of_ble_eq_true rfl, Nat.le_of_ble_eq_true rfl⟩ hl.1 rfl (Nat.le_of_ble_eq_true rfl) ⟨Nat.zero_le _, Nat.zero_le _⟩ d_AS_locateAligned_28 (fun H locs w => ?_)
    exact rt_l hc w d_AS_locateAligned_31 (by rw [← e_c1, f_AS_locateAligned_c1, if_pos q8] <;> rfl)
  · refine lv_iload_n hx hb d_AS_locateAligned_11 rfl (lv_at hl 2 rfl) ?_
    refine lv_iconst (v := 1) hx hb d_AS_locateAligned_12 (by decide) ?_
    refine lv_icmp_ne (tgt := 20) hx hb d_AS_locateAligned_13 (by decide) (fun q13 => ?_) (fun q13 => ?_)
    · refine lv_iconst (v := 4) hx hb d_AS_locateAligned_20 (by decide) ?_
      exact J21 σ2 (4 : Int32) _ _ _ w (lv_sub hl [] rfl) (by rw [← e_c1, f_AS_locateAligned_c1, if_neg q8, if_neg q13])
    · refine lv_iconst (v := 5) hx hb d_AS_locateAligned_16 (by decide) ?_
      refine lv_goto (tgt := 21) hx hb d_AS_locateAligned_17 (by decide) ?_
      exact J21 σ2 (5 : Int32) _ _ _ w (lv_sub hl [] rfl) (by rw [← e_c1, f_AS_locateAligned_c1, if_neg q8, if_pos q13])
