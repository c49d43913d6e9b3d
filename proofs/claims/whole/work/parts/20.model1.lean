-- MO_thrown
def f_MO_thrown (σ : MS) : Int32 := m_thrown σ
theorem d_MO_thrown_0 : decode b_MO_thrown 0 = .ok (.aload_n 0, 1) := by decide +kernel
theorem d_MO_thrown_1 : decode b_MO_thrown 1 = .ok (.getfield 48, 3) := by decide +kernel
theorem d_MO_thrown_4 : decode b_MO_thrown 4 = .ok (.ireturn, 1) := by decide +kernel
set_option maxHeartbeats 4000000 in
set_option maxRecDepth 100000 in
theorem c_MO_thrown (l : Launch) (E : Ev) (ad : Nat → Nat) (σ : MS) : rC xCl l E (mW E ad) y_MO_thrown b_MO_thrown 1 (Option.some Jvm.ClassFile.FieldType.int) (rmo 0 0) [.ref (ad 0)] σ ((σ, some (Value.int (f_MO_thrown σ)))) := by
  refine rC.of (by decide) (Nat.le_of_ble_eq_true rfl) ?_
  intro p e s m below meth c A ls hc w hl
  generalize e0 : (σ, some (Value.int (f_MO_thrown σ))) = Z
  have hc : Cx xCl E A p s m ([.ref (ad 0)] : List Value).toArray meth c b_MO_thrown 1 (Option.some Jvm.ClassFile.FieldType.int) "PageMachineModel" := hc
  have hx := hc.1
  have hb := hc.2.1
  have ho := hc.2.2.2.2.2.1
  have hT := hc.2.2.2.2.2.2.1
  have hl : lv_has ls 1 [(0, .ref (ad 0))] := hl
  refine lv_aload_n hx hb d_MO_thrown_0 rfl (lv_at hl 0 rfl) ?_
  refine g_MO_thrown hc w mw_886 d_MO_thrown_1 ?_
  exact rt_i hc w d_MO_thrown_4 (by rw [← e0, f_MO_thrown] <;> rfl)
-- MO_fail
def f_MO_fail_c1 (σ2 : MS) (a1 : Int32)  : MS × Int32 := (σ2, (0 : Int32))
def f_MO_fail (σ : MS) (a1 : Int32) : MS × Int32 := f_MO_fail_c1 (ms_thrown σ a1) a1 
theorem d_MO_fail_0 : decode b_MO_fail 0 = .ok (.aload_n 0, 1) := by decide +kernel
theorem d_MO_fail_1 : decode b_MO_fail 1 = .ok (.iload_n 1, 1) := by decide +kernel
theorem d_MO_fail_2 : decode b_MO_fail 2 = .ok (.putfield 48, 3) := by decide +kernel
theorem d_MO_fail_5 : decode b_MO_fail 5 = .ok (.iconst 0, 1) := by decide +kernel
theorem d_MO_fail_6 : decode b_MO_fail 6 = .ok (.ireturn, 1) := by decide +kernel
set_option maxHeartbeats 4000000 in
set_option maxRecDepth 100000 in
theorem c_MO_fail (l : Launch) (E : Ev) (ad : Nat → Nat) (σ : MS) (a1 : Int32) : rC xCl l E (mW E ad) y_MO_fail b_MO_fail 2 (Option.some Jvm.ClassFile.FieldType.int) (rmo 0 0) [.ref (ad 0), .int a1] σ (zI (f_MO_fail σ a1)) := by
  refine rC.of (by decide) (Nat.le_of_ble_eq_true rfl) ?_
  intro p e s m below meth c A ls hc w hl
  generalize e0 : zI (f_MO_fail σ a1) = Z
  have hc : Cx xCl E A p s m ([.ref (ad 0), .int a1] : List Value).toArray meth c b_MO_fail 2 (Option.some Jvm.ClassFile.FieldType.int) "PageMachineModel" := hc
  have hx := hc.1
  have hb := hc.2.1
  have ho := hc.2.2.2.2.2.1
  have hT := hc.2.2.2.2.2.2.1
  have hl : lv_has ls 2 [(0, .ref (ad 0)), (1, .int a1)] := hl
  refine lv_aload_n hx hb d_MO_fail_0 rfl (lv_at hl 0 rfl) ?_
  refine lv_iload_n hx hb d_MO_fail_1 rfl (lv_at hl 1 rfl) ?_
  refine p_MO_thrown hc w mw_886 d_MO_fail_2 (fun σ2 H locs hs2 w => ?_)
  have e_c1 : zI (f_MO_fail_c1 σ2 a1 ) = Z := by rw [← e0, f_MO_fail, hs2]
  refine lv_iconst (v := 0) hx hb d_MO_fail_5 (by decide) ?_
  exact rt_i hc w d_MO_fail_6 (by rw [← e_c1, f_MO_fail_c1] <;> rfl)
-- MO_within
def f_MO_within (σ : MS) (a1 : Int32) (a2 : Int32) (a3 : Int32) : Bool := if a1 < a2 then (false) else (if a3 < a1 then (false) else (true))
theorem d_MO_within_0 : decode b_MO_within 0 = .ok (.iload_n 0, 1) := by decide +kernel
theorem d_MO_within_1 : decode b_MO_within 1 = .ok (.iload_n 1, 1) := by decide +kernel
theorem d_MO_within_2 : decode b_MO_within 2 = .ok (.if_icmp .lt 12, 3) := by decide +kernel
theorem d_MO_within_5 : decode b_MO_within 5 = .ok (.iload_n 0, 1) := by decide +kernel
theorem d_MO_within_6 : decode b_MO_within 6 = .ok (.iload_n 2, 1) := by decide +kernel
theorem d_MO_within_7 : decode b_MO_within 7 = .ok (.if_icmp .gt 7, 3) := by decide +kernel
theorem d_MO_within_10 : decode b_MO_within 10 = .ok (.iconst 1, 1) := by decide +kernel
theorem d_MO_within_11 : decode b_MO_within 11 = .ok (.goto 4, 3) := by decide +kernel
theorem d_MO_within_14 : decode b_MO_within 14 = .ok (.iconst 0, 1) := by decide +kernel
theorem d_MO_within_15 : decode b_MO_within 15 = .ok (.ireturn, 1) := by decide +kernel
set_option maxHeartbeats 4000000 in
set_option maxRecDepth 100000 in
theorem c_MO_within (l : Launch) (E : Ev) (ad : Nat → Nat) (σ : MS) (a1 : Int32) (a2 : Int32) (a3 : Int32) : rC xCl l E (mW E ad) y_MO_within b_MO_within 3 (Option.some Jvm.ClassFile.FieldType.boolean) (rmo 0 0) [.int a1, .int a2, .int a3] σ ((σ, some (Value.int (zb (f_MO_within σ a1 a2 a3))))) := by
  refine rC.of (by decide) (Nat.le_of_ble_eq_true rfl) ?_
  intro p e s m below meth c A ls hc w hl
  generalize e0 : (σ, some (Value.int (zb (f_MO_within σ a1 a2 a3)))) = Z
  have hc : Cx xCl E A p s m ([.int a1, .int a2, .int a3] : List Value).toArray meth c b_MO_within 3 (Option.some Jvm.ClassFile.FieldType.boolean) "PageMachineModel" := hc
  have hx := hc.1
  have hb := hc.2.1
  have ho := hc.2.2.2.2.2.1
  have hT := hc.2.2.2.2.2.2.1
  have hl : lv_has ls 3 [(0, .int a1), (1, .int a2), (2, .int a3)] := hl
  refine lv_iload_n hx hb d_MO_within_0 rfl (lv_at hl 0 rfl) ?_
  refine lv_iload_n hx hb d_MO_within_1 rfl (lv_at hl 1 rfl) ?_
  refine lv_icmp_lt (tgt := 14) hx hb d_MO_within_2 (by decide) (fun q2 => ?_) (fun q2 => ?_)
  · refine lv_iconst (v := 0) hx hb d_MO_within_14 (by decide) ?_
    exact rt_z (v := false) hc w d_MO_within_15 rfl (by rw [← e0, f_MO_within, if_pos q2] <;> rfl)
  · refine lv_iload_n hx hb d_MO_within_5 rfl (lv_at hl 0 rfl) ?_
    refine lv_iload_n hx hb d_MO_within_6 rfl (lv_at hl 2 rfl) ?_
    refine lv_icmp_gt (tgt := 14) hx hb d_MO_within_7 (by decide) (fun q7 => ?_) (fun q7 => ?_)
    · refine lv_iconst (v := 0) hx hb d_MO_within_14 (by decide) ?_
      exact rt_z (v := false) hc w d_MO_within_15 rfl (by rw [← e0, f_MO_within, if_neg q2, if_pos q7] <;> rfl)
    · refine lv_iconst (v := 1) hx hb d_MO_within_10 (by decide) ?_
      refine lv_goto (tgt := 15) hx hb d_MO_within_11 (by decide) ?_
      exact rt_z (v := true) hc w d_MO_within_15 rfl (by rw [← e0, f_MO_within, if_neg q2, if_neg q7] <;> rfl)
-- MO_isRegister
def f_MO_isRegister (σ : MS) (a1 : Int32) (a2 : Int32) : Bool := if a1 = 0 then (f_MO_within σ a2 (0 : Int32) (34 : Int32)) else (if a1 = (1 : Int32) then (if (zb (f_MO_within σ a2 (0 : Int32) (31 : Int32))) = 0 then (false) else (true)) else (false))
theorem d_MO_isRegister_0 : decode b_MO_isRegister 0 = .ok (.iload_n 0, 1) := by decide +kernel
theorem d_MO_isRegister_1 : decode b_MO_isRegister 1 = .ok (.ifCond .ne 13, 3) := by decide +kernel
theorem d_MO_isRegister_4 : decode b_MO_isRegister 4 = .ok (.iload_n 1, 1) := by decide +kernel
theorem d_MO_isRegister_5 : decode b_MO_isRegister 5 = .ok (.iconst 0, 1) := by decide +kernel
theorem d_MO_isRegister_6 : decode b_MO_isRegister 6 = .ok (.bipush 34, 2) := by decide +kernel
theorem d_MO_isRegister_8 : decode b_MO_isRegister 8 = .ok (.invokestatic 56, 3) := by decide +kernel
theorem d_MO_isRegister_11 : decode b_MO_isRegister 11 = .ok (.goto 23, 3) := by decide +kernel
theorem d_MO_isRegister_14 : decode b_MO_isRegister 14 = .ok (.iload_n 0, 1) := by decide +kernel
theorem d_MO_isRegister_15 : decode b_MO_isRegister 15 = .ok (.iconst 1, 1) := by decide +kernel
theorem d_MO_isRegister_16 : decode b_MO_isRegister 16 = .ok (.if_icmp .ne 17, 3) := by decide +kernel
theorem d_MO_isRegister_19 : decode b_MO_isRegister 19 = .ok (.iload_n 1, 1) := by decide +kernel
theorem d_MO_isRegister_20 : decode b_MO_isRegister 20 = .ok (.iconst 0, 1) := by decide +kernel
theorem d_MO_isRegister_21 : decode b_MO_isRegister 21 = .ok (.bipush 31, 2) := by decide +kernel
theorem d_MO_isRegister_23 : decode b_MO_isRegister 23 = .ok (.invokestatic 56, 3) := by decide +kernel
theorem d_MO_isRegister_26 : decode b_MO_isRegister 26 = .ok (.ifCond .eq 7, 3) := by decide +kernel
theorem d_MO_isRegister_29 : decode b_MO_isRegister 29 = .ok (.iconst 1, 1) := by decide +kernel
theorem d_MO_isRegister_30 : decode b_MO_isRegister 30 = .ok (.goto 4, 3) := by decide +kernel
theorem d_MO_isRegister_33 : decode b_MO_isRegister 33 = .ok (.iconst 0, 1) := by decide +kernel
theorem d_MO_isRegister_34 : decode b_MO_isRegister 34 = .ok (.ireturn, 1) := by decide +kernel
set_option maxHeartbeats 4000000 in
set_option maxRecDepth 100000 in
theorem c_MO_isRegister (l : Launch) (E : Ev) (ad : Nat → Nat) (σ : MS) (a1 : Int32) (a2 : Int32) : rC xCl l E (mW E ad) y_MO_isRegister b_MO_isRegister 2 (Option.some Jvm.ClassFile.FieldType.boolean) (rmo 1 22) [.int a1, .int a2] σ ((σ, some (Value.int (zb (f_MO_isRegister σ a1 a2))))) := by
  refine rC.of (by decide) (Nat.le_of_ble_eq_true rfl) ?_
  intro p e s m below meth c A ls hc w hl
  generalize e0 : (σ, some (Value.int (zb (f_MO_isRegister σ a1 a2)))) = Z
  have hc : Cx xCl E A p s m ([.int a1, .int a2] : List Value).toArray meth c b_MO_isRegister 2 (Option.some Jvm.ClassFile.FieldType.boolean) "PageMachineModel" := hc
  have hx := hc.1
  have hb := hc.2.1
  have ho := hc.2.2.2.2.2.1
  have hT := hc.2.2.2.2.2.2.1
  have hl : lv_has ls 2 [(0, .int a1), (1, .int a2)] := hl
  refine lv_iload_n hx hb d_MO_isRegister_0 rfl (lv_at hl 0 rfl) ?_
  refine lv_if_ne (tgt := 14) hx hb d_MO_isRegister_1 (by decide) (fun q1 => ?_) (fun q1 => ?_)
  · refine lv_iload_n hx hb d_MO_isRegister_14 rfl (lv_at hl 0 rfl) ?_
    refine lv_iconst (v := 1) hx hb d_MO_isRegister_15 (by decide) ?_
    refine lv_icmp_ne (tgt := 33) hx hb d_MO_isRegister_16 (by decide) (fun q16 => ?_) (fun q16 => ?_)
    · refine lv_iconst (v := 0) hx hb d_MO_isRegister_33 (by decide) ?_
      exact rt_z (v := false) hc w d_MO_isRegister_34 rfl (by rw [← e0, f_MO_isRegister, if_neg q1, if_neg q16] <;> rfl)
    · refine lv_iload_n hx hb d_MO_isRegister_19 rfl (lv_at hl 1 rfl) ?_
      refine lv_iconst (v := 0) hx hb d_MO_isRegister_20 (by decide) ?_
      refine lv_bipush (v := 31) hx hb d_MO_isRegister_21 (by decide) ?_
      refine rSZ (rest := []) hc w (c_MO_within l E ad σ a2 (0 : Int32) (31 : Int32)) ks_MO_within mw_976 ⟨Nat.le_of_ble_eq_true rfl, Nat.le_of_ble_eq_true rfl⟩ hl.1 rfl (Nat.le_of_ble_eq_true rfl) ⟨Nat.zero_le _, Nat.zero_le _⟩ d_MO_isRegister_23 (fun H locs w => ?_)
      refine lv_if_eq (tgt := 33) hx hb d_MO_isRegister_26 (by decide) (fun q26 => ?_) (fun q26 => ?_)
      · refine lv_iconst (v := 0) hx hb d_MO_isRegister_33 (by decide) ?_
        exact rt_z (v := false) hc w d_MO_isRegister_34 rfl (by rw [← e0, f_MO_isRegister, if_neg q1, if_pos q16, if_pos q26] <;> rfl)
      · refine lv_iconst (v := 1) hx hb d_MO_isRegister_29 (by decide) ?_
        refine lv_goto (tgt := 34) hx hb d_MO_isRegister_30 (by decide) ?_
        exact rt_z (v := true) hc w d_MO_isRegister_34 rfl (by rw [← e0, f_MO_isRegister, if_neg q1, if_pos q16, if_neg q26] <;> rfl)
  · refine lv_iload_n hx hb d_MO_isRegister_4 rfl (lv_at hl 1 rfl) ?_
    refine lv_iconst (v := 0) hx hb d_MO_isRegister_5 (by decide) ?_
    refine lv_bipush (v := 34) hx hb d_MO_isRegister_6 (by decide) ?_
    refine rSZ (rest := []) hc w (c_MO_within l E ad σ a2 (0 : Int32) (34 : Int32)) ks_MO_within mw_976 ⟨Nat.le_of_ble_eq_true rfl, Nat.le_of_ble_eq_true rfl⟩ hl.1 rfl (Nat.le_of_ble_eq_true rfl) ⟨Nat.zero_le _, Nat.zero_le _⟩ d_MO_isRegister_8 (fun H locs w => ?_)
    refine lv_goto (tgt := 34) hx hb d_MO_isRegister_11 (by decide) ?_
    exact rt_z (v := f_MO_within σ a2 (0 : Int32) (34 : Int32)) hc w d_MO_isRegister_34 rfl (by rw [← e0, f_MO_isRegister, if_pos q1] <;> rfl)
-- MO_put
def f_MO_put_c1 (σ14 : MS) (a1 : Int32) (a2 : Int32)  : MS := σ14
def f_MO_put_14 (σ : MS) (a1 : Int32) (a2 : Int32) (w14_2 : Int32) : MS := f_MO_put_c1 (ms_r σ (upd (m_r σ) (Int32.toNatClampNeg a1) w14_2)) a1 a2 
def f_MO_put (σ : MS) (a1 : Int32) (a2 : Int32) : MS := if a1 = 0 then (f_MO_put_14 σ a1 a2 (0 : Int32)) else (f_MO_put_14 σ a1 a2 a2)
theorem d_MO_put_0 : decode b_MO_put 0 = .ok (.aload_n 0, 1) := by decide +kernel
theorem d_MO_put_1 : decode b_MO_put 1 = .ok (.getfield 14, 3) := by decide +kernel
theorem d_MO_put_4 : decode b_MO_put 4 = .ok (.iload_n 1, 1) := by decide +kernel
theorem d_MO_put_5 : decode b_MO_put 5 = .ok (.iload_n 1, 1) := by decide +kernel
theorem d_MO_put_6 : decode b_MO_put 6 = .ok (.ifCond .ne 7, 3) := by decide +kernel
theorem d_MO_put_9 : decode b_MO_put 9 = .ok (.iconst 0, 1) := by decide +kernel
theorem d_MO_put_10 : decode b_MO_put 10 = .ok (.goto 4, 3) := by decide +kernel
theorem d_MO_put_13 : decode b_MO_put 13 = .ok (.iload_n 2, 1) := by decide +kernel
theorem d_MO_put_14 : decode b_MO_put 14 = .ok (.iastore, 1) := by decide +kernel
theorem d_MO_put_15 : decode b_MO_put 15 = .ok (.return_, 1) := by decide +kernel
set_option maxHeartbeats 4000000 in
set_option maxRecDepth 100000 in
theorem c_MO_put (l : Launch) (E : Ev) (ad : Nat → Nat) (σ : MS) (a1 : Int32) (a2 : Int32) (h1 : vp_in a1 32) : rC xCl l E (mW E ad) y_MO_put b_MO_put 3 (Option.none : Option Jvm.ClassFile.FieldType) (rmo 0 0) [.ref (ad 0), .int a1, .int a2] σ (zV (f_MO_put σ a1 a2)) := by
  refine rC.of (by decide) (Nat.le_of_ble_eq_true rfl) ?_
  intro p e s m below meth c A ls hc w hl
  generalize e0 : zV (f_MO_put σ a1 a2) = Z
  have hc : Cx xCl E A p s m ([.ref (ad 0), .int a1, .int a2] : List Value).toArray meth c b_MO_put 3 (Option.none : Option Jvm.ClassFile.FieldType) "PageMachineModel" := hc
  have hx := hc.1
  have hb := hc.2.1
  have ho := hc.2.2.2.2.2.1
  have hT := hc.2.2.2.2.2.2.1
  have hl : lv_has ls 3 [(0, .ref (ad 0)), (1, .int a1), (2, .int a2)] := hl
  have J14 : ∀ (w14_2 : Int32) (H : Heap) (locs : List Loc) (ls : Array Slot), Wd xCl E A s.heap H locs (mW E ad σ) → lv_has ls 3 [] → zV (f_MO_put_14 σ a1 a2 w14_2) = Z → W p l e (rmo 0 0) s m ([.ref (ad 0), .int a1, .int a2] : List Value).toArray below meth c H locs 0 0 (MQ below (rQ xCl (mW E ad) E A Z) ([.ref (ad 0), .int a1, .int a2] : List Value).toArray s 0 0 A) (F0 m 14 ls [.int w14_2, .int a1, .ref (ad 2)]) := by
    intro w14_2 H locs ls w hl e14
    refine s_MO_r hc w h1 d_MO_put_14 (fun σ14 H locs hs14 w => ?_)
    have e_c1 : zV (f_MO_put_c1 σ14 a1 a2 ) = Z := by rw [← e14, f_MO_put_14, hs14]
    exact rt_v hc w d_MO_put_15 (by rw [← e_c1, f_MO_put_c1] <;> rfl)
  refine lv_aload_n hx hb d_MO_put_0 rfl (lv_at hl 0 rfl) ?_
  refine g_MO_r hc w mw_888 d_MO_put_1 ?_
  refine lv_iload_n hx hb d_MO_put_4 rfl (lv_at hl 1 rfl) ?_
  refine lv_iload_n hx hb d_MO_put_5 rfl (lv_at hl 1 rfl) ?_
  refine lv_if_ne (tgt := 13) hx hb d_MO_put_6 (by decide) (fun q6 => ?_) (fun q6 => ?_)
  · refine lv_iload_n hx hb d_MO_put_13 rfl (lv_at hl 2 rfl) ?_
    exact J14 a2 _ _ _ w (lv_sub hl [] rfl) (by rw [← e0, f_MO_put, if_neg q6])
  · refine lv_iconst (v := 0) hx hb d_MO_put_9 (by decide) ?_
    refine lv_goto (tgt := 14) hx hb d_MO_put_10 (by decide) ?_
    exact J14 (0 : Int32) _ _ _ w (lv_sub hl [] rfl) (by rw [← e0, f_MO_put, if_pos q6])
-- MO_read
def f_MO_read_23 : Nat → MS → Int32 → Int32 → Int32 → Int32
  | 0, σ, a1, v23_3, v23_2 => 0
  | fuel + 1, σ, a1, v23_3, v23_2 => if (6 : Int32) ≤ v23_3 then (v23_2) else (if (zb (m_lines σ (Int32.toNatClampNeg v23_3))) = 0 then (if v23_3 = (5 : Int32) then (if (zb (m_timer σ)) = 0 then (f_MO_read_23 fuel σ a1 (v23_3 + (1 : Int32)) v23_2) else (f_MO_read_23 fuel σ a1 (v23_3 + (1 : Int32)) (v23_2 ||| ((1 : Int32) <<< (((10 : Int32) + v23_3) &&& 31))))) else (f_MO_read_23 fuel σ a1 (v23_3 + (1 : Int32)) v23_2)) else (f_MO_read_23 fuel σ a1 (v23_3 + (1 : Int32)) (v23_2 ||| ((1 : Int32) <<< (((10 : Int32) + v23_3) &&& 31)))))
def f_MO_read (σ : MS) (a1 : Int32) : Int32 := if a1 = (13 : Int32) then (f_MO_read_23 7 σ a1 (0 : Int32) (m_sys σ (Int32.toNatClampNeg (13 : Int32)))) else (m_sys σ (Int32.toNatClampNeg a1))
theorem d_MO_read_0 : decode b_MO_read 0 = .ok (.iload_n 1, 1) := by decide +kernel
theorem d_MO_read_1 : decode b_MO_read 1 = .ok (.bipush 13, 2) := by decide +kernel
theorem d_MO_read_3 : decode b_MO_read 3 = .ok (.if_icmp .eq 10, 3) := by decide +kernel
theorem d_MO_read_6 : decode b_MO_read 6 = .ok (.aload_n 0, 1) := by decide +kernel
theorem d_MO_read_7 : decode b_MO_read 7 = .ok (.getfield 17, 3) := by decide +kernel
theorem d_MO_read_10 : decode b_MO_read 10 = .ok (.iload_n 1, 1) := by decide +kernel
theorem d_MO_read_11 : decode b_MO_read 11 = .ok (.iaload, 1) := by decide +kernel
theorem d_MO_read_12 : decode b_MO_read 12 = .ok (.ireturn, 1) := by decide +kernel
theorem d_MO_read_13 : decode b_MO_read 13 = .ok (.aload_n 0, 1) := by decide +kernel
theorem d_MO_read_14 : decode b_MO_read 14 = .ok (.getfield 17, 3) := by decide +kernel
theorem d_MO_read_17 : decode b_MO_read 17 = .ok (.bipush 13, 2) := by decide +kernel
theorem d_MO_read_19 : decode b_MO_read 19 = .ok (.iaload, 1) := by decide +kernel
theorem d_MO_read_20 : decode b_MO_read 20 = .ok (.istore_n 2, 1) := by decide +kernel
theorem d_MO_read_21 : decode b_MO_read 21 = .ok (.iconst 0, 1) := by decide +kernel
theorem d_MO_read_22 : decode b_MO_read 22 = .ok (.istore_n 3, 1) := by decide +kernel
theorem d_MO_read_23 : decode b_MO_read 23 = .ok (.iload_n 3, 1) := by decide +kernel
theorem d_MO_read_24 : decode b_MO_read 24 = .ok (.bipush 6, 2) := by decide +kernel
theorem d_MO_read_26 : decode b_MO_read 26 = .ok (.if_icmp .ge 39, 3) := by decide +kernel
theorem d_MO_read_29 : decode b_MO_read 29 = .ok (.aload_n 0, 1) := by decide +kernel
theorem d_MO_read_30 : decode b_MO_read 30 = .ok (.getfield 20, 3) := by decide +kernel
theorem d_MO_read_33 : decode b_MO_read 33 = .ok (.iload_n 3, 1) := by decide +kernel
theorem d_MO_read_34 : decode b_MO_read 34 = .ok (.baload, 1) := by decide +kernel
theorem d_MO_read_35 : decode b_MO_read 35 = .ok (.ifCond .ne 15, 3) := by decide +kernel
theorem d_MO_read_38 : decode b_MO_read 38 = .ok (.iload_n 3, 1) := by decide +kernel
theorem d_MO_read_39 : decode b_MO_read 39 = .ok (.iconst 5, 1) := by decide +kernel
theorem d_MO_read_40 : decode b_MO_read 40 = .ok (.if_icmp .ne 19, 3) := by decide +kernel
theorem d_MO_read_43 : decode b_MO_read 43 = .ok (.aload_n 0, 1) := by decide +kernel
theorem d_MO_read_44 : decode b_MO_read 44 = .ok (.getfield 84, 3) := by decide +kernel
theorem d_MO_read_47 : decode b_MO_read 47 = .ok (.ifCond .eq 12, 3) := by decide +kernel
theorem d_MO_read_50 : decode b_MO_read 50 = .ok (.iload_n 2, 1) := by decide +kernel
theorem d_MO_read_51 : decode b_MO_read 51 = .ok (.iconst 1, 1) := by decide +kernel
theorem d_MO_read_52 : decode b_MO_read 52 = .ok (.bipush 10, 2) := by decide +kernel
theorem d_MO_read_54 : decode b_MO_read 54 = .ok (.iload_n 3, 1) := by decide +kernel
theorem d_MO_read_55 : decode b_MO_read 55 = .ok (.iadd, 1) := by decide +kernel
theorem d_MO_read_56 : decode b_MO_read 56 = .ok (.ishl, 1) := by decide +kernel
theorem d_MO_read_57 : decode b_MO_read 57 = .ok (.ior, 1) := by decide +kernel
theorem d_MO_read_58 : decode b_MO_read 58 = .ok (.istore_n 2, 1) := by decide +kernel
theorem d_MO_read_59 : decode b_MO_read 59 = .ok (.iinc 3 1, 3) := by decide +kernel
theorem d_MO_read_62 : decode b_MO_read 62 = .ok (.goto (-39), 3) := by decide +kernel
theorem d_MO_read_65 : decode b_MO_read 65 = .ok (.iload_n 2, 1) := by decide +kernel
theorem d_MO_read_66 : decode b_MO_read 66 = .ok (.ireturn, 1) := by decide +kernel
set_option maxHeartbeats 4000000 in
set_option maxRecDepth 100000 in
theorem c_MO_read (l : Launch) (E : Ev) (ad : Nat → Nat) (σ : MS) (a1 : Int32) (h1 : vp_in a1 32) : rC xCl l E (mW E ad) y_MO_read b_MO_read 4 (Option.some Jvm.ClassFile.FieldType.int) (rmo 0 0) [.ref (ad 0), .int a1] σ ((σ, some (Value.int (f_MO_read σ a1)))) := by
  refine rC.of (by decide) (Nat.le_of_ble_eq_true rfl) ?_
  intro p e s m below meth c A ls hc w hl
  generalize e0 : (σ, some (Value.int (f_MO_read σ a1))) = Z
  have hc : Cx xCl E A p s m ([.ref (ad 0), .int a1] : List Value).toArray meth c b_MO_read 4 (Option.some Jvm.ClassFile.FieldType.int) "PageMachineModel" := hc
  have hx := hc.1
  have hb := hc.2.1
  have ho := hc.2.2.2.2.2.1
  have hT := hc.2.2.2.2.2.2.1
  have hl : lv_has ls 4 [(0, .ref (ad 0)), (1, .int a1)] := hl
  have J23 : ∀ (fuel : Nat) (v23_3 : Int32) (v23_2 : Int32) , (∃ i : Nat, v23_3 = nI i ∧ i ≤ 6 ∧ i + fuel = 7) → ∀ (H : Heap) (locs : List Loc) (ls : Array Slot), Wd xCl E A s.heap H locs (mW E ad σ) → lv_has ls 4 [(3, .int v23_3), (2, .int v23_2), (0, .ref (ad 0))] → (σ, some (Value.int (f_MO_read_23 fuel σ a1 v23_3 v23_2))) = Z → W p l e (rmo 0 0) s m ([.ref (ad 0), .int a1] : List Value).toArray below meth c H locs 0 0 (MQ below (rQ xCl (mW E ad) E A Z) ([.ref (ad 0), .int a1] : List Value).toArray s 0 0 A) (F0 m 23 ls []) := by
    intro fuel
    induction fuel with
    | zero =>
      intro v23_3 v23_2 hinv
      exact absurd hinv (fun ⟨i, _, h1, h2⟩ => by omega)
    | succ fuel ih =>
      intro v23_3 v23_2 hinv H locs ls w hl e23
      obtain ⟨i, hi, hj1, hj2⟩ := hinv
      refine lv_iload_n hx hb d_MO_read_23 rfl (lv_at hl 0 rfl) ?_
      refine lv_bipush (v := 6) hx hb d_MO_read_24 (by decide) ?_
      refine lv_icmp_ge (tgt := 65) hx hb d_MO_read_26 (by decide) (fun q26 => ?_) (fun q26 => ?_)
      · refine lv_iload_n hx hb d_MO_read_65 rfl (lv_at hl 1 rfl) ?_
        exact rt_i hc w d_MO_read_66 (by rw [← e23, f_MO_read_23, if_pos q26] <;> rfl)
      · refine lv_aload_n hx hb d_MO_read_29 rfl (lv_at hl 2 rfl) ?_
        refine g_MO_lines hc w mw_897 d_MO_read_30 ?_
        refine lv_iload_n hx hb d_MO_read_33 rfl (lv_at hl 0 rfl) ?_
        refine a_MO_lines hc w ((bd_lt hi (N := 6) rfl q26 (by decide) (by omega)).2.1) d_MO_read_34 ?_
        refine lv_if_ne (tgt := 50) hx hb d_MO_read_35 (by decide) (fun q35 => ?_) (fun q35 => ?_)
        · refine lv_iload_n hx hb d_MO_read_50 rfl (lv_at hl 1 rfl) ?_
          refine lv_iconst (v := 1) hx hb d_MO_read_51 (by decide) ?_
          refine lv_bipush (v := 10) hx hb d_MO_read_52 (by decide) ?_
          refine lv_iload_n hx hb d_MO_read_54 rfl (lv_at hl 0 rfl) ?_
          refine lv_iadd hx hb d_MO_read_55 ?_
          refine lv_ishl hx hb d_MO_read_56 ?_
          refine lv_ior hx hb d_MO_read_57 ?_
          refine lv_istore_n (lv' := [(2, .int (v23_2 ||| ((1 : Int32) <<< (((10 : Int32) + v23_3) &&& 31)))), (3, .int v23_3), (0, .ref (ad 0))]) hx hb d_MO_read_58 rfl hl (by decide) rfl (fun ls hl => ?_)
          refine lv_iinc (v := v23_3 + (1 : Int32)) (lv' := [(3, .int (v23_3 + (1 : Int32))), (2, .int (v23_2 ||| ((1 : Int32) <<< (((10 : Int32) + v23_3) &&& 31)))), (0, .ref (ad 0))]) hx hb d_MO_read_59 hl (k := 1) rfl rfl (by decide) rfl (fun ls hl => ?_)
          refine lv_goto (tgt := 23) hx hb d_MO_read_62 (by decide) ?_
          exact ih (v23_3 + (1 : Int32)) (v23_2 ||| ((1 : Int32) <<< (((10 : Int32) + v23_3) &&& 31))) (⟨i + 1, (bd_lt hi (N := 6) rfl q26 (by decide) (by omega)).2.2, (bd_lt hi (N := 6) rfl q26 (by decide) (by omega)).1, by omega⟩) _ _ _ w (lv_sub hl [0, 1, 2] rfl) (by rw [← e23, f_MO_read_23, if_neg q26, if_neg q35])
        · refine lv_iload_n hx hb d_MO_read_38 rfl (lv_at hl 0 rfl) ?_
          refine lv_iconst (v := 5) hx hb d_MO_read_39 (by decide) ?_
          refine lv_icmp_ne (tgt := 59) hx hb d_MO_read_40 (by decide) (fun q40 => ?_) (fun q40 => ?_)
          · refine lv_iinc (v := v23_3 + (1 : Int32)) (lv' := [(3, .int (v23_3 + (1 : Int32))), (2, .int v23_2), (0, .ref (ad 0))]) hx hb d_MO_read_59 hl (k := 0) rfl rfl (by decide) rfl (fun ls hl => ?_)
            refine lv_goto (tgt := 23) hx hb d_MO_read_62 (by decide) ?_
            exact ih (v23_3 + (1 : Int32)) v23_2 (⟨i + 1, (bd_lt hi (N := 6) rfl q26 (by decide) (by omega)).2.2, (bd_lt hi (N := 6) rfl q26 (by decide) (by omega)).1, by omega⟩) _ _ _ w (lv_sub hl [0, 1, 2] rfl) (by rw [← e23, f_MO_read_23, if_neg q26, if_pos q35, if_neg q40])
          · refine lv_aload_n hx hb d_MO_read_43 rfl (lv_at hl 2 rfl) ?_
            refine g_MO_timer hc w mw_896 d_MO_read_44 ?_
            refine lv_if_eq (tgt := 59) hx hb d_MO_read_47 (by decide) (fun q47 => ?_) (fun q47 => ?_)
            · refine lv_iinc (v := v23_3 + (1 : Int32)) (lv' := [(3, .int (v23_3 + (1 : Int32))), (2, .int v23_2), (0, .ref (ad 0))]) hx hb d_MO_read_59 hl (k := 0) rfl rfl (by decide) rfl (fun ls hl => ?_)
              refine lv_goto (tgt := 23) hx hb d_MO_read_62 (by decide) ?_
              exact ih (v23_3 + (1 : Int32)) v23_2 (⟨i + 1, (bd_lt hi (N := 6) rfl q26 (by decide) (by omega)).2.2, (bd_lt hi (N := 6) rfl q26 (by decide) (by omega)).1, by omega⟩) _ _ _ w (lv_sub hl [0, 1, 2] rfl) (by rw [← e23, f_MO_read_23, if_neg q26, if_pos q35, if_pos q40, if_pos q47])
            · refine lv_iload_n hx hb d_MO_read_50 rfl (lv_at hl 1 rfl) ?_
              refine lv_iconst (v := 1) hx hb d_MO_read_51 (by decide) ?_
              refine lv_bipush (v := 10) hx hb d_MO_read_52 (by decide) ?_
              refine lv_iload_n hx hb d_MO_read_54 rfl (lv_at hl 0 rfl) ?_
              refine lv_iadd hx hb d_MO_read_55 ?_
              refine lv_ishl hx hb d_MO_read_56 ?_
              refine lv_ior hx hb d_MO_read_57 ?_
              refine lv_istore_n (lv' := [(2, .int (v23_2 ||| ((1 : Int32) <<< (((10 : Int32) + v23_3) &&& 31)))), (3, .int v23_3), (0, .ref (ad 0))]) hx hb d_MO_read_58 rfl hl (by decide) rfl (fun ls hl => ?_)
              refine lv_iinc (v := v23_3 + (1 : Int32)) (lv' := [(3, .int (v23_3 + (1 : Int32))), (2, .int (v23_2 ||| ((1 : Int32) <<< (((10 : Int32) + v23_3) &&& 31)))), (0, .ref (ad 0))]) hx hb d_MO_read_59 hl (k := 1) rfl rfl (by decide) rfl (fun ls hl => ?_)
              refine lv_goto (tgt := 23) hx hb d_MO_read_62 (by decide) ?_
              exact ih (v23_3 + (1 : Int32)) (v23_2 ||| ((1 : Int32) <<< (((10 : Int32) + v23_3) &&& 31))) (⟨i + 1, (bd_lt hi (N := 6) rfl q26 (by decide) (by omega)).2.2, (bd_lt hi (N := 6) rfl q26 (by decide) (by omega)).1, by omega⟩) _ _ _ w (lv_sub hl [0, 1, 2] rfl) (by rw [← e23, f_MO_read_23, if_neg q26, if_pos q35, if_pos q40, if_neg q47])
  refine lv_iload_n hx hb d_MO_read_0 rfl (lv_at hl 1 rfl) ?_
  refine lv_bipush (v := 13) hx hb d_MO_read_1 (by decide) ?_
  refine lv_icmp_eq (tgt := 13) hx hb d_MO_read_3 (by decide) (fun q3 => ?_) (fun q3 => ?_)
  · refine lv_aload_n hx hb d_MO_read_13 rfl (lv_at hl 0 rfl) ?_
    refine g_MO_sys hc w mw_895 d_MO_read_14 ?_
    refine lv_bipush (v := 13) hx hb d_MO_read_17 (by decide) ?_
    refine a_MO_sys hc w (by unfold vp_in; decide) d_MO_read_19 ?_
    refine lv_istore_n (lv' := [(2, .int (m_sys σ (Int32.toNatClampNeg (13 : Int32)))), (0, .ref (ad 0)), (1, .int a1)]) hx hb d_MO_read_20 rfl hl (by decide) rfl (fun ls hl => ?_)
    refine lv_iconst (v := 0) hx hb d_MO_read_21 (by decide) ?_
    refine lv_istore_n (lv' := [(3, .int (0 : Int32)), (2, .int (m_sys σ (Int32.toNatClampNeg (13 : Int32)))), (0, .ref (ad 0)), (1, .int a1)]) hx hb d_MO_read_22 rfl hl (by decide) rfl (fun ls hl => ?_)
    exact J23 7 (0 : Int32) (m_sys σ (Int32.toNatClampNeg (13 : Int32))) (⟨0, rfl, by omega, by omega⟩) _ _ _ w (lv_sub hl [0, 1, 2] rfl) (by rw [← e0, f_MO_read, if_pos q3])
  · refine lv_aload_n hx hb d_MO_read_6 rfl (lv_at hl 0 rfl) ?_
    refine g_MO_sys hc w mw_895 d_MO_read_7 ?_
    refine lv_iload_n hx hb d_MO_read_10 rfl (lv_at hl 1 rfl) ?_
    refine a_MO_sys hc w h1 d_MO_read_11 ?_
    exact rt_i hc w d_MO_read_12 (by rw [← e0, f_MO_read, if_neg q3] <;> rfl)
-- MO_bitsOf
def f_MO_bitsOf (σ : MS) (a1 : Int32) : Int32 := if a1 = (0 : Int32) then ((31 : Int32)) else (if a1 = (1 : Int32) then ((0 : Int32)) else (if a1 = (2 : Int32) then ((67108863 : Int32)) else (if a1 = (3 : Int32) then ((67108863 : Int32)) else (if a1 = (4 : Int32) then ((-8388608 : Int32)) else (if a1 = (5 : Int32) then ((0 : Int32)) else (if a1 = (6 : Int32) then ((31 : Int32)) else (if a1 = (7 : Int32) then ((0 : Int32)) else (if a1 = (8 : Int32) then ((0 : Int32)) else (if a1 = (9 : Int32) then ((-1 : Int32)) else (if a1 = (10 : Int32) then ((-7937 : Int32)) else (if a1 = (11 : Int32) then ((-1 : Int32)) else (if a1 = (12 : Int32) then ((268500755 : Int32)) else (if a1 = (13 : Int32) then ((768 : Int32)) else (if a1 = (14 : Int32) then ((-1 : Int32)) else ((0 : Int32))))))))))))))))
theorem d_MO_bitsOf_0 : decode b_MO_bitsOf 0 = .ok (.iload_n 0, 1) := by decide +kernel
theorem d_MO_bitsOf_1 : decode b_MO_bitsOf 1 = .ok (.tableswitch 107 0 14 #[75, 107, 78, 81, 84, 107, 87, 107, 107, 90, 92, 96, 98, 101, 105], 75) := by decide +kernel
theorem d_MO_bitsOf_76 : decode b_MO_bitsOf 76 = .ok (.bipush 31, 2) := by decide +kernel
theorem d_MO_bitsOf_78 : decode b_MO_bitsOf 78 = .ok (.ireturn, 1) := by decide +kernel
theorem d_MO_bitsOf_79 : decode b_MO_bitsOf 79 = .ok (.ldc 87, 2) := by decide +kernel
theorem d_MO_bitsOf_81 : decode b_MO_bitsOf 81 = .ok (.ireturn, 1) := by decide +kernel
theorem d_MO_bitsOf_82 : decode b_MO_bitsOf 82 = .ok (.ldc 87, 2) := by decide +kernel
theorem d_MO_bitsOf_84 : decode b_MO_bitsOf 84 = .ok (.ireturn, 1) := by decide +kernel
theorem d_MO_bitsOf_85 : decode b_MO_bitsOf 85 = .ok (.ldc 88, 2) := by decide +kernel
theorem d_MO_bitsOf_87 : decode b_MO_bitsOf 87 = .ok (.ireturn, 1) := by decide +kernel
theorem d_MO_bitsOf_88 : decode b_MO_bitsOf 88 = .ok (.bipush 31, 2) := by decide +kernel
theorem d_MO_bitsOf_90 : decode b_MO_bitsOf 90 = .ok (.ireturn, 1) := by decide +kernel
theorem d_MO_bitsOf_91 : decode b_MO_bitsOf 91 = .ok (.iconst (-1), 1) := by decide +kernel
theorem d_MO_bitsOf_92 : decode b_MO_bitsOf 92 = .ok (.ireturn, 1) := by decide +kernel
theorem d_MO_bitsOf_93 : decode b_MO_bitsOf 93 = .ok (.sipush (-7937), 3) := by decide +kernel
theorem d_MO_bitsOf_96 : decode b_MO_bitsOf 96 = .ok (.ireturn, 1) := by decide +kernel
theorem d_MO_bitsOf_97 : decode b_MO_bitsOf 97 = .ok (.iconst (-1), 1) := by decide +kernel
theorem d_MO_bitsOf_98 : decode b_MO_bitsOf 98 = .ok (.ireturn, 1) := by decide +kernel
theorem d_MO_bitsOf_99 : decode b_MO_bitsOf 99 = .ok (.ldc 89, 2) := by decide +kernel
theorem d_MO_bitsOf_101 : decode b_MO_bitsOf 101 = .ok (.ireturn, 1) := by decide +kernel
theorem d_MO_bitsOf_102 : decode b_MO_bitsOf 102 = .ok (.sipush 768, 3) := by decide +kernel
theorem d_MO_bitsOf_105 : decode b_MO_bitsOf 105 = .ok (.ireturn, 1) := by decide +kernel
theorem d_MO_bitsOf_106 : decode b_MO_bitsOf 106 = .ok (.iconst (-1), 1) := by decide +kernel
theorem d_MO_bitsOf_107 : decode b_MO_bitsOf 107 = .ok (.ireturn, 1) := by decide +kernel
theorem d_MO_bitsOf_108 : decode b_MO_bitsOf 108 = .ok (.iconst 0, 1) := by decide +kernel
theorem d_MO_bitsOf_109 : decode b_MO_bitsOf 109 = .ok (.ireturn, 1) := by decide +kernel
set_option maxHeartbeats 4000000 in
set_option maxRecDepth 100000 in
theorem c_MO_bitsOf (l : Launch) (E : Ev) (ad : Nat → Nat) (σ : MS) (a1 : Int32) : rC xCl l E (mW E ad) y_MO_bitsOf b_MO_bitsOf 1 (Option.some Jvm.ClassFile.FieldType.int) (rmo 0 0) [.int a1] σ ((σ, some (Value.int (f_MO_bitsOf σ a1)))) := by
  refine rC.of (by decide) (Nat.le_of_ble_eq_true rfl) ?_
  intro p e s m below meth c A ls hc w hl
  generalize e0 : (σ, some (Value.int (f_MO_bitsOf σ a1))) = Z
  have hc : Cx xCl E A p s m ([.int a1] : List Value).toArray meth c b_MO_bitsOf 1 (Option.some Jvm.ClassFile.FieldType.int) "PageMachineModel" := hc
  have hx := hc.1
  have hb := hc.2.1
  have ho := hc.2.2.2.2.2.1
  have hT := hc.2.2.2.2.2.2.1
  have hl : lv_has ls 1 [(0, .int a1)] := hl
  refine lv_iload_n hx hb d_MO_bitsOf_0 rfl (lv_at hl 0 rfl) ?_
  by_cases q1_0 : a1 = (0 : Int32)
  · refine lv_tableIn (tgt := 76) (off := 75) hx hb d_MO_bitsOf_1 (by rw [q1_0]; decide) (by rw [q1_0]; decide) (by rw [q1_0]; rfl) (by decide) ?_
    refine lv_bipush (v := 31) hx hb d_MO_bitsOf_76 (by decide) ?_
    exact rt_i hc w d_MO_bitsOf_78 (by rw [← e0, f_MO_bitsOf, if_pos q1_0] <;> rfl)
  · by_cases q1_1 : a1 = (1 : Int32)
    · refine lv_tableIn (tgt := 108) (off := 107) hx hb d_MO_bitsOf_1 (by rw [q1_1]; decide) (by rw [q1_1]; decide) (by rw [q1_1]; rfl) (by decide) ?_
      refine lv_iconst (v := 0) hx hb d_MO_bitsOf_108 (by decide) ?_
      exact rt_i hc w d_MO_bitsOf_109 (by rw [← e0, f_MO_bitsOf, if_neg q1_0, if_pos q1_1] <;> rfl)
    · by_cases q1_2 : a1 = (2 : Int32)
      · refine lv_tableIn (tgt := 79) (off := 78) hx hb d_MO_bitsOf_1 (by rw [q1_2]; decide) (by rw [q1_2]; decide) (by rw [q1_2]; rfl) (by decide) ?_
        refine lv_ldc (v := 67108863) hx hb ho (hT _ mw_997) d_MO_bitsOf_79 ?_
        exact rt_i hc w d_MO_bitsOf_81 (by rw [← e0, f_MO_bitsOf, if_neg q1_0, if_neg q1_1, if_pos q1_2] <;> rfl)
      · by_cases q1_3 : a1 = (3 : Int32)
        · refine lv_tableIn (tgt := 82) (off := 81) hx hb d_MO_bitsOf_1 (by rw [q1_3]; decide) (by rw [q1_3]; decide) (by rw [q1_3]; rfl) (by decide) ?_
          refine lv_ldc (v := 67108863) hx hb ho (hT _ mw_997) d_MO_bitsOf_82 ?_
          exact rt_i hc w d_MO_bitsOf_84 (by rw [← e0, f_MO_bitsOf, if_neg q1_0, if_neg q1_1, if_neg q1_2, if_pos q1_3] <;> rfl)
        · by_cases q1_4 : a1 = (4 : Int32)
          · refine lv_tableIn (tgt := 85) (off := 84) hx hb d_MO_bitsOf_1 (by rw [q1_4]; decide) (by rw [q1_4]; decide) (by rw [q1_4]; rfl) (by decide) ?_
            refine lv_ldc (v := -8388608) hx hb ho (hT _ mw_998) d_MO_bitsOf_85 ?_
            exact rt_i hc w d_MO_bitsOf_87 (by rw [← e0, f_MO_bitsOf, if_neg q1_0, if_neg q1_1, if_neg q1_2, if_neg q1_3, if_pos q1_4] <;> rfl)
          · by_cases q1_5 : a1 = (5 : Int32)
            · refine lv_tableIn (tgt := 108) (off := 107) hx hb d_MO_bitsOf_1 (by rw [q1_5]; decide) (by rw [q1_5]; decide) (by rw [q1_5]; rfl) (by decide) ?_
              refine lv_iconst (v := 0) hx hb d_MO_bitsOf_108 (by decide) ?_
              exact rt_i hc w d_MO_bitsOf_109 (by rw [← e0, f_MO_bitsOf, if_neg q1_0, if_neg q1_1, if_neg q1_2, if_neg q1_3, if_neg q1_4, if_pos q1_5] <;> rfl)
            · by_cases q1_6 : a1 = (6 : Int32)
              · refine lv_tableIn (tgt := 88) (off := 87) hx hb d_MO_bitsOf_1 (by rw [q1_6]; decide) (by rw [q1_6]; decide) (by rw [q1_6]; rfl) (by decide) ?_
                refine lv_bipush (v := 31) hx hb d_MO_bitsOf_88 (by decide) ?_
                exact rt_i hc w d_MO_bitsOf_90 (by rw [← e0, f_MO_bitsOf, if_neg q1_0, if_neg q1_1, if_neg q1_2, if_neg q1_3, if_neg q1_4, if_neg q1_5, if_pos q1_6] <;> rfl)
              · by_cases q1_7 : a1 = (7 : Int32)
                · refine lv_tableIn (tgt := 108) (off := 107) hx hb d_MO_bitsOf_1 (by rw [q1_7]; decide) (by rw [q1_7]; decide) (by rw [q1_7]; rfl) (by decide) ?_
                  refine lv_iconst (v := 0) hx hb d_MO_bitsOf_108 (by decide) ?_
                  exact rt_i hc w d_MO_bitsOf_109 (by rw [← e0, f_MO_bitsOf, if_neg q1_0, if_neg q1_1, if_neg q1_2, if_neg q1_3, if_neg q1_4, if_neg q1_5, if_neg q1_6, if_pos q1_7] <;> rfl)
                · by_cases q1_8 : a1 = (8 : Int32)
                  · refine lv_tableIn (tgt := 108) (off := 107) hx hb d_MO_bitsOf_1 (by rw [q1_8]; decide) (by rw [q1_8]; decide) (by rw [q1_8]; rfl) (by decide) ?_
                    refine lv_iconst (v := 0) hx hb d_MO_bitsOf_108 (by decide) ?_
                    exact rt_i hc w d_MO_bitsOf_109 (by rw [← e0, f_MO_bitsOf, if_neg q1_0, if_neg q1_1, if_neg q1_2, if_neg q1_3, if_neg q1_4, if_neg q1_5, if_neg q1_6, if_neg q1_7, if_pos q1_8] <;> rfl)
                  · by_cases q1_9 : a1 = (9 : Int32)
                    · refine lv_tableIn (tgt := 91) (off := 90) hx hb d_MO_bitsOf_1 (by rw [q1_9]; decide) (by rw [q1_9]; decide) (by rw [q1_9]; rfl) (by decide) ?_
                      refine lv_iconst (v := -1) hx hb d_MO_bitsOf_91 (by decide) ?_
                      exact rt_i hc w d_MO_bitsOf_92 (by rw [← e0, f_MO_bitsOf, if_neg q1_0, if_neg q1_1, if_neg q1_2, if_neg q1_3, if_neg q1_4, if_neg q1_5, if_neg q1_6, if_neg q1_7, if_neg q1_8, if_pos q1_9] <;> rfl)
                    · by_cases q1_10 : a1 = (10 : Int32)
                      · refine lv_tableIn (tgt := 93) (off := 92) hx hb d_MO_bitsOf_1 (by rw [q1_10]; decide) (by rw [q1_10]; decide) (by rw [q1_10]; rfl) (by decide) ?_
                        refine lv_sipush (v := -7937) hx hb d_MO_bitsOf_93 (by decide) ?_
                        exact rt_i hc w d_MO_bitsOf_96 (by rw [← e0, f_MO_bitsOf, if_neg q1_0, if_neg q1_1, if_neg q1_2, if_neg q1_3, if_neg q1_4, if_neg q1_5, if_neg q1_6, if_neg q1_7, if_neg q1_8, if_neg q1_9, if_pos q1_10] <;> rfl)
                      · by_cases q1_11 : a1 = (11 : Int32)
                        · refine lv_tableIn (tgt := 97) (off := 96) hx hb d_MO_bitsOf_1 (by rw [q1_11]; decide) (by rw [q1_11]; decide) (by rw [q1_11]; rfl) (by decide) ?_
                          refine lv_iconst (v := -1) hx hb d_MO_bitsOf_97 (by decide) ?_
                          exact rt_i hc w d_MO_bitsOf_98 (by rw [← e0, f_MO_bitsOf, if_neg q1_0, if_neg q1_1, if_neg q1_2, if_neg q1_3, if_neg q1_4, if_neg q1_5, if_neg q1_6, if_neg q1_7, if_neg q1_8, if_neg q1_9, if_neg q1_10, if_pos q1_11] <;> rfl)
                        · by_cases q1_12 : a1 = (12 : Int32)
                          · refine lv_tableIn (tgt := 99) (off := 98) hx hb d_MO_bitsOf_1 (by rw [q1_12]; decide) (by rw [q1_12]; decide) (by rw [q1_12]; rfl) (by decide) ?_
                            refine lv_ldc (v := 268500755) hx hb ho (hT _ mw_999) d_MO_bitsOf_99 ?_
                            exact rt_i hc w d_MO_bitsOf_101 (by rw [← e0, f_MO_bitsOf, if_neg q1_0, if_neg q1_1, if_neg q1_2, if_neg q1_3, if_neg q1_4, if_neg q1_5, if_neg q1_6, if_neg q1_7, if_neg q1_8, if_neg q1_9, if_neg q1_10, if_neg q1_11, if_pos q1_12] <;> rfl)
                          · by_cases q1_13 : a1 = (13 : Int32)
                            · refine lv_tableIn (tgt := 102) (off := 101) hx hb d_MO_bitsOf_1 (by rw [q1_13]; decide) (by rw [q1_13]; decide) (by rw [q1_13]; rfl) (by decide) ?_
                              refine lv_sipush (v := 768) hx hb d_MO_bitsOf_102 (by decide) ?_
                              exact rt_i hc w d_MO_bitsOf_105 (by rw [← e0, f_MO_bitsOf, if_neg q1_0, if_neg q1_1, if_neg q1_2, if_neg q1_3, if_neg q1_4, if_neg q1_5, if_neg q1_6, if_neg q1_7, if_neg q1_8, if_neg q1_9, if_neg q1_10, if_neg q1_11, if_neg q1_12, if_pos q1_13] <;> rfl)
                            · by_cases q1_14 : a1 = (14 : Int32)
                              · refine lv_tableIn (tgt := 106) (off := 105) hx hb d_MO_bitsOf_1 (by rw [q1_14]; decide) (by rw [q1_14]; decide) (by rw [q1_14]; rfl) (by decide) ?_
                                refine lv_iconst (v := -1) hx hb d_MO_bitsOf_106 (by decide) ?_
                                exact rt_i hc w d_MO_bitsOf_107 (by rw [← e0, f_MO_bitsOf, if_neg q1_0, if_neg q1_1, if_neg q1_2, if_neg q1_3, if_neg q1_4, if_neg q1_5, if_neg q1_6, if_neg q1_7, if_neg q1_8, if_neg q1_9, if_neg q1_10, if_neg q1_11, if_neg q1_12, if_neg q1_13, if_pos q1_14] <;> rfl)
                              · refine lv_tableOut (tgt := 108) hx hb d_MO_bitsOf_1 (by have k0 := ne_k q1_0 (n := 0) (by decide); have k1 := ne_k q1_1 (n := 1) (by decide); have k2 := ne_k q1_2 (n := 2) (by decide); have k3 := ne_k q1_3 (n := 3) (by decide); have k4 := ne_k q1_4 (n := 4) (by decide); have k5 := ne_k q1_5 (n := 5) (by decide); have k6 := ne_k q1_6 (n := 6) (by decide); have k7 := ne_k q1_7 (n := 7) (by decide); have k8 := ne_k q1_8 (n := 8) (by decide); have k9 := ne_k q1_9 (n := 9) (by decide); have k10 := ne_k q1_10 (n := 10) (by decide); have k11 := ne_k q1_11 (n := 11) (by decide); have k12 := ne_k q1_12 (n := 12) (by decide); have k13 := ne_k q1_13 (n := 13) (by decide); have k14 := ne_k q1_14 (n := 14) (by decide); omega) (by decide) ?_
                                refine lv_iconst (v := 0) hx hb d_MO_bitsOf_108 (by decide) ?_
                                exact rt_i hc w d_MO_bitsOf_109 (by rw [← e0, f_MO_bitsOf, if_neg q1_0, if_neg q1_1, if_neg q1_2, if_neg q1_3, if_neg q1_4, if_neg q1_5, if_neg q1_6, if_neg q1_7, if_neg q1_8, if_neg q1_9, if_neg q1_10, if_neg q1_11, if_neg q1_12, if_neg q1_13, if_neg q1_14] <;> rfl)
-- MO_write
def f_MO_write_c4 (σ61 : MS) (a1 : Int32) (a2 : Int32)  : MS := σ61
def f_MO_write_53 (σ53 : MS) (a1 : Int32) (a2 : Int32) : MS := if a1 = (11 : Int32) then (f_MO_write_c4 (ms_timer σ53 false) a1 a2 ) else (σ53)
def f_MO_write_c3 (σ52 : MS) (a1 : Int32) (a2 : Int32)  : MS := f_MO_write_53 σ52 a1 a2
def f_MO_write_39 (σ39 : MS) (a1 : Int32) (a2 : Int32) : MS := if a1 = (6 : Int32) then (f_MO_write_c3 (ms_sys σ39 (upd (m_sys σ39) (Int32.toNatClampNeg (1 : Int32)) (31 : Int32))) a1 a2 ) else (f_MO_write_53 σ39 a1 a2)
def f_MO_write_c2 (σ38 : MS) (a1 : Int32) (a2 : Int32)  : MS := f_MO_write_39 σ38 a1 a2
def f_MO_write_c1 (σ24 : MS) (a1 : Int32) (a2 : Int32)  : MS := if a1 = 0 then (f_MO_write_c2 (ms_sys σ24 (upd (m_sys σ24) (Int32.toNatClampNeg (0 : Int32)) (a2 &&& (31 : Int32)))) a1 a2 ) else (f_MO_write_39 σ24 a1 a2)
def f_MO_write (σ : MS) (a1 : Int32) (a2 : Int32) : MS := f_MO_write_c1 (ms_sys σ (upd (m_sys σ) (Int32.toNatClampNeg a1) (((m_sys σ (Int32.toNatClampNeg a1)) &&& ((f_MO_bitsOf σ a1) ^^^ (-1 : Int32))) ||| (a2 &&& (f_MO_bitsOf σ a1))))) a1 a2 
theorem d_MO_write_0 : decode b_MO_write 0 = .ok (.iload_n 1, 1) := by decide +kernel
theorem d_MO_write_1 : decode b_MO_write 1 = .ok (.invokestatic 90, 3) := by decide +kernel
theorem d_MO_write_4 : decode b_MO_write 4 = .ok (.istore_n 3, 1) := by decide +kernel
theorem d_MO_write_5 : decode b_MO_write 5 = .ok (.aload_n 0, 1) := by decide +kernel
theorem d_MO_write_6 : decode b_MO_write 6 = .ok (.getfield 17, 3) := by decide +kernel
theorem d_MO_write_9 : decode b_MO_write 9 = .ok (.iload_n 1, 1) := by decide +kernel
theorem d_MO_write_10 : decode b_MO_write 10 = .ok (.aload_n 0, 1) := by decide +kernel
theorem d_MO_write_11 : decode b_MO_write 11 = .ok (.getfield 17, 3) := by decide +kernel
theorem d_MO_write_14 : decode b_MO_write 14 = .ok (.iload_n 1, 1) := by decide +kernel
theorem d_MO_write_15 : decode b_MO_write 15 = .ok (.iaload, 1) := by decide +kernel
theorem d_MO_write_16 : decode b_MO_write 16 = .ok (.iload_n 3, 1) := by decide +kernel
theorem d_MO_write_17 : decode b_MO_write 17 = .ok (.iconst (-1), 1) := by decide +kernel
theorem d_MO_write_18 : decode b_MO_write 18 = .ok (.ixor, 1) := by decide +kernel
theorem d_MO_write_19 : decode b_MO_write 19 = .ok (.iand, 1) := by decide +kernel
theorem d_MO_write_20 : decode b_MO_write 20 = .ok (.iload_n 2, 1) := by decide +kernel
theorem d_MO_write_21 : decode b_MO_write 21 = .ok (.iload_n 3, 1) := by decide +kernel
theorem d_MO_write_22 : decode b_MO_write 22 = .ok (.iand, 1) := by decide +kernel
theorem d_MO_write_23 : decode b_MO_write 23 = .ok (.ior, 1) := by decide +kernel
theorem d_MO_write_24 : decode b_MO_write 24 = .ok (.iastore, 1) := by decide +kernel
theorem d_MO_write_25 : decode b_MO_write 25 = .ok (.iload_n 1, 1) := by decide +kernel
theorem d_MO_write_26 : decode b_MO_write 26 = .ok (.ifCond .ne 13, 3) := by decide +kernel
theorem d_MO_write_29 : decode b_MO_write 29 = .ok (.aload_n 0, 1) := by decide +kernel
theorem d_MO_write_30 : decode b_MO_write 30 = .ok (.getfield 17, 3) := by decide +kernel
theorem d_MO_write_33 : decode b_MO_write 33 = .ok (.iconst 0, 1) := by decide +kernel
theorem d_MO_write_34 : decode b_MO_write 34 = .ok (.iload_n 2, 1) := by decide +kernel
theorem d_MO_write_35 : decode b_MO_write 35 = .ok (.bipush 31, 2) := by decide +kernel
theorem d_MO_write_37 : decode b_MO_write 37 = .ok (.iand, 1) := by decide +kernel
theorem d_MO_write_38 : decode b_MO_write 38 = .ok (.iastore, 1) := by decide +kernel
theorem d_MO_write_39 : decode b_MO_write 39 = .ok (.iload_n 1, 1) := by decide +kernel
theorem d_MO_write_40 : decode b_MO_write 40 = .ok (.bipush 6, 2) := by decide +kernel
theorem d_MO_write_42 : decode b_MO_write 42 = .ok (.if_icmp .ne 11, 3) := by decide +kernel
theorem d_MO_write_45 : decode b_MO_write 45 = .ok (.aload_n 0, 1) := by decide +kernel
theorem d_MO_write_46 : decode b_MO_write 46 = .ok (.getfield 17, 3) := by decide +kernel
theorem d_MO_write_49 : decode b_MO_write 49 = .ok (.iconst 1, 1) := by decide +kernel
theorem d_MO_write_50 : decode b_MO_write 50 = .ok (.bipush 31, 2) := by decide +kernel
theorem d_MO_write_52 : decode b_MO_write 52 = .ok (.iastore, 1) := by decide +kernel
theorem d_MO_write_53 : decode b_MO_write 53 = .ok (.iload_n 1, 1) := by decide +kernel
theorem d_MO_write_54 : decode b_MO_write 54 = .ok (.bipush 11, 2) := by decide +kernel
theorem d_MO_write_56 : decode b_MO_write 56 = .ok (.if_icmp .ne 8, 3) := by decide +kernel
theorem d_MO_write_59 : decode b_MO_write 59 = .ok (.aload_n 0, 1) := by decide +kernel
theorem d_MO_write_60 : decode b_MO_write 60 = .ok (.iconst 0, 1) := by decide +kernel
theorem d_MO_write_61 : decode b_MO_write 61 = .ok (.putfield 84, 3) := by decide +kernel
theorem d_MO_write_64 : decode b_MO_write 64 = .ok (.return_, 1) := by decide +kernel
set_option maxHeartbeats 4000000 in
set_option maxRecDepth 100000 in
theorem c_MO_write (l : Launch) (E : Ev) (ad : Nat → Nat) (σ : MS) (a1 : Int32) (a2 : Int32) (h1 : vp_in a1 32) : rC xCl l E (mW E ad) y_MO_write b_MO_write 4 (Option.none : Option Jvm.ClassFile.FieldType) (rmo 1 20) [.ref (ad 0), .int a1, .int a2] σ (zV (f_MO_write σ a1 a2)) := by
  refine rC.of (by decide) (Nat.le_of_ble_eq_true rfl) ?_
  intro p e s m below meth c A ls hc w hl
  generalize e0 : zV (f_MO_write σ a1 a2) = Z
  have hc : Cx xCl E A p s m ([.ref (ad 0), .int a1, .int a2] : List Value).toArray meth c b_MO_write 4 (Option.none : Option Jvm.ClassFile.FieldType) "PageMachineModel" := hc
  have hx := hc.1
  have hb := hc.2.1
  have ho := hc.2.2.2.2.2.1
  have hT := hc.2.2.2.2.2.2.1
  have hl : lv_has ls 4 [(0, .ref (ad 0)), (1, .int a1), (2, .int a2)] := hl
  have J53 : ∀ (σ53 : MS) (H : Heap) (locs : List Loc) (ls : Array Slot), Wd xCl E A s.heap H locs (mW E ad σ53) → lv_has ls 4 [(0, .ref (ad 0)), (1, .int a1)] → zV (f_MO_write_53 σ53 a1 a2) = Z → W p l e (rmo 1 20) s m ([.ref (ad 0), .int a1, .int a2] : List Value).toArray below meth c H locs 0 0 (MQ below (rQ xCl (mW E ad) E A Z) ([.ref (ad 0), .int a1, .int a2] : List Value).toArray s 0 0 A) (F0 m 53 ls []) := by
    intro σ53 H locs ls w hl e53
    refine lv_iload_n hx hb d_MO_write_53 rfl (lv_at hl 1 rfl) ?_
    refine lv_bipush (v := 11) hx hb d_MO_write_54 (by decide) ?_
    refine lv_icmp_ne (tgt := 64) hx hb d_MO_write_56 (by decide) (fun q56 => ?_) (fun q56 => ?_)
    · exact rt_v hc w d_MO_write_64 (by rw [← e53, f_MO_write_53, if_neg q56] <;> rfl)
    · refine lv_aload_n hx hb d_MO_write_59 rfl (lv_at hl 0 rfl) ?_
      refine lv_iconst (v := 0) hx hb d_MO_write_60 (by decide) ?_
      refine p_MO_timer (v := false) hc w mw_896 d_MO_write_61 (fun σ61 H locs hs61 w => ?_)
      have e_c4 : zV (f_MO_write_c4 σ61 a1 a2 ) = Z := by rw [← e53, f_MO_write_53, if_pos q56, hs61]
      exact rt_v hc w d_MO_write_64 (by rw [← e_c4, f_MO_write_c4] <;> rfl)
  have J39 : ∀ (σ39 : MS) (H : Heap) (locs : List Loc) (ls : Array Slot), Wd xCl E A s.heap H locs (mW E ad σ39) → lv_has ls 4 [(0, .ref (ad 0)), (1, .int a1)] → zV (f_MO_write_39 σ39 a1 a2) = Z → W p l e (rmo 1 20) s m ([.ref (ad 0), .int a1, .int a2] : List Value).toArray below meth c H locs 0 0 (MQ below (rQ xCl (mW E ad) E A Z) ([.ref (ad 0), .int a1, .int a2] : List Value).toArray s 0 0 A) (F0 m 39 ls []) := by
    intro σ39 H locs ls w hl e39
    refine lv_iload_n hx hb d_MO_write_39 rfl (lv_at hl 1 rfl) ?_
    refine lv_bipush (v := 6) hx hb d_MO_write_40 (by decide) ?_
    refine lv_icmp_ne (tgt := 53) hx hb d_MO_write_42 (by decide) (fun q42 => ?_) (fun q42 => ?_)
    · exact J53 σ39 _ _ _ w (lv_sub hl [0, 1] rfl) (by rw [← e39, f_MO_write_39, if_neg q42])
    · refine lv_aload_n hx hb d_MO_write_45 rfl (lv_at hl 0 rfl) ?_
      refine g_MO_sys hc w mw_895 d_MO_write_46 ?_
      refine lv_iconst (v := 1) hx hb d_MO_write_49 (by decide) ?_
      refine lv_bipush (v := 31) hx hb d_MO_write_50 (by decide) ?_
      refine s_MO_sys hc w (by unfold vp_in; decide) d_MO_write_52 (fun σ52 H locs hs52 w => ?_)
      have e_c3 : zV (f_MO_write_c3 σ52 a1 a2 ) = Z := by rw [← e39, f_MO_write_39, if_pos q42, hs52]
      exact J53 σ52 _ _ _ w (lv_sub hl [0, 1] rfl) (by rw [← e_c3, f_MO_write_c3])
  refine lv_iload_n hx hb d_MO_write_0 rfl (lv_at hl 1 rfl) ?_
  refine rSI (rest := []) hc w (c_MO_bitsOf l E ad σ a1) ks_MO_bitsOf mw_994 ⟨Nat.le_of_ble_eq_true rfl, Nat.le_of_ble_eq_true rfl⟩ hl.1 rfl (Nat.le_of_ble_eq_true rfl) ⟨Nat.zero_le _, Nat.zero_le _⟩ d_MO_write_1 (fun H locs w => ?_)
  refine lv_istore_n (lv' := [(3, .int (f_MO_bitsOf σ a1)), (0, .ref (ad 0)), (1, .int a1), (2, .int a2)]) hx hb d_MO_write_4 rfl hl (by decide) rfl (fun ls hl => ?_)
  refine lv_aload_n hx hb d_MO_write_5 rfl (lv_at hl 1 rfl) ?_
  refine g_MO_sys hc w mw_895 d_MO_write_6 ?_
  refine lv_iload_n hx hb d_MO_write_9 rfl (lv_at hl 2 rfl) ?_
  refine lv_aload_n hx hb d_MO_write_10 rfl (lv_at hl 1 rfl) ?_
  refine g_MO_sys hc w mw_895 d_MO_write_11 ?_
  refine lv_iload_n hx hb d_MO_write_14 rfl (lv_at hl 2 rfl) ?_
  refine a_MO_sys hc w h1 d_MO_write_15 ?_
  refine lv_iload_n hx hb d_MO_write_16 rfl (lv_at hl 0 rfl) ?_
  refine lv_iconst (v := -1) hx hb d_MO_write_17 (by decide) ?_
  refine lv_ixor hx hb d_MO_write_18 ?_
  refine lv_iand hx hb d_MO_write_19 ?_
  refine lv_iload_n hx hb d_MO_write_20 rfl (lv_at hl 3 rfl) ?_
  refine lv_iload_n hx hb d_MO_write_21 rfl (lv_at hl 0 rfl) ?_
  refine lv_iand hx hb d_MO_write_22 ?_
  refine lv_ior hx hb d_MO_write_23 ?_
  refine s_MO_sys hc w h1 d_MO_write_24 (fun σ24 H locs hs24 w => ?_)
  have e_c1 : zV (f_MO_write_c1 σ24 a1 a2 ) = Z := by rw [← e0, f_MO_write, hs24]
  refine lv_iload_n hx hb d_MO_write_25 rfl (lv_at hl 2 rfl) ?_
  refine lv_if_ne (tgt := 39) hx hb d_MO_write_26 (by decide) (fun q26 => ?_) (fun q26 => ?_)
  · exact J39 σ24 _ _ _ w (lv_sub hl [1, 2] rfl) (by rw [← e_c1, f_MO_write_c1, if_neg q26])
  · refine lv_aload_n hx hb d_MO_write_29 rfl (lv_at hl 1 rfl) ?_
    refine g_MO_sys hc w mw_895 d_MO_write_30 ?_
    refine lv_iconst (v := 0) hx hb d_MO_write_33 (by decide) ?_
    refine lv_iload_n hx hb d_MO_write_34 rfl (lv_at hl 3 rfl) ?_
    refine lv_bipush (v := 31) hx hb d_MO_write_35 (by decide) ?_
    refine lv_iand hx hb d_MO_write_37 ?_
    refine s_MO_sys hc w (by unfold vp_in; decide) d_MO_write_38 (fun σ38 H locs hs38 w => ?_)
    have e_c2 : zV (f_MO_write_c2 σ38 a1 a2 ) = Z := by rw [← e_c1, f_MO_write_c1, if_pos q26, hs38]
    exact J39 σ38 _ _ _ w (lv_sub hl [1, 2] rfl) (by rw [← e_c2, f_MO_write_c2])
-- MO_isIn
def f_MO_isIn (σ : MS) (a1 : Int32) : Bool := if (((m_sys σ (Int32.toNatClampNeg (12 : Int32))) >>> (a1 &&& 31)) &&& (1 : Int32)) = (1 : Int32) then (true) else (false)
theorem d_MO_isIn_0 : decode b_MO_isIn 0 = .ok (.aload_n 0, 1) := by decide +kernel
theorem d_MO_isIn_1 : decode b_MO_isIn 1 = .ok (.getfield 17, 3) := by decide +kernel
theorem d_MO_isIn_4 : decode b_MO_isIn 4 = .ok (.bipush 12, 2) := by decide +kernel
theorem d_MO_isIn_6 : decode b_MO_isIn 6 = .ok (.iaload, 1) := by decide +kernel
theorem d_MO_isIn_7 : decode b_MO_isIn 7 = .ok (.iload_n 1, 1) := by decide +kernel
theorem d_MO_isIn_8 : decode b_MO_isIn 8 = .ok (.ishr, 1) := by decide +kernel
theorem d_MO_isIn_9 : decode b_MO_isIn 9 = .ok (.iconst 1, 1) := by decide +kernel
theorem d_MO_isIn_10 : decode b_MO_isIn 10 = .ok (.iand, 1) := by decide +kernel
theorem d_MO_isIn_11 : decode b_MO_isIn 11 = .ok (.iconst 1, 1) := by decide +kernel
theorem d_MO_isIn_12 : decode b_MO_isIn 12 = .ok (.if_icmp .ne 7, 3) := by decide +kernel
theorem d_MO_isIn_15 : decode b_MO_isIn 15 = .ok (.iconst 1, 1) := by decide +kernel
theorem d_MO_isIn_16 : decode b_MO_isIn 16 = .ok (.goto 4, 3) := by decide +kernel
theorem d_MO_isIn_19 : decode b_MO_isIn 19 = .ok (.iconst 0, 1) := by decide +kernel
theorem d_MO_isIn_20 : decode b_MO_isIn 20 = .ok (.ireturn, 1) := by decide +kernel
set_option maxHeartbeats 4000000 in
set_option maxRecDepth 100000 in
theorem c_MO_isIn (l : Launch) (E : Ev) (ad : Nat → Nat) (σ : MS) (a1 : Int32) : rC xCl l E (mW E ad) y_MO_isIn b_MO_isIn 2 (Option.some Jvm.ClassFile.FieldType.boolean) (rmo 0 0) [.ref (ad 0), .int a1] σ ((σ, some (Value.int (zb (f_MO_isIn σ a1))))) := by
  refine rC.of (by decide) (Nat.le_of_ble_eq_true rfl) ?_
  intro p e s m below meth c A ls hc w hl
  generalize e0 : (σ, some (Value.int (zb (f_MO_isIn σ a1)))) = Z
  have hc : Cx xCl E A p s m ([.ref (ad 0), .int a1] : List Value).toArray meth c b_MO_isIn 2 (Option.some Jvm.ClassFile.FieldType.boolean) "PageMachineModel" := hc
  have hx := hc.1
  have hb := hc.2.1
  have ho := hc.2.2.2.2.2.1
  have hT := hc.2.2.2.2.2.2.1
  have hl : lv_has ls 2 [(0, .ref (ad 0)), (1, .int a1)] := hl
  refine lv_aload_n hx hb d_MO_isIn_0 rfl (lv_at hl 0 rfl) ?_
  refine g_MO_sys hc w mw_895 d_MO_isIn_1 ?_
  refine lv_bipush (v := 12) hx hb d_MO_isIn_4 (by decide) ?_
  refine a_MO_sys hc w (by unfold vp_in; decide) d_MO_isIn_6 ?_
  refine lv_iload_n hx hb d_MO_isIn_7 rfl (lv_at hl 1 rfl) ?_
  refine lv_ishr hx hb d_MO_isIn_8 ?_
  refine lv_iconst (v := 1) hx hb d_MO_isIn_9 (by decide) ?_
  refine lv_iand hx hb d_MO_isIn_10 ?_
  refine lv_iconst (v := 1) hx hb d_MO_isIn_11 (by decide) ?_
  refine lv_icmp_ne (tgt := 19) hx hb d_MO_isIn_12 (by decide) (fun q12 => ?_) (fun q12 => ?_)
  · refine lv_iconst (v := 0) hx hb d_MO_isIn_19 (by decide) ?_
    exact rt_z (v := false) hc w d_MO_isIn_20 rfl (by rw [← e0, f_MO_isIn, if_neg q12] <;> rfl)
  · refine lv_iconst (v := 1) hx hb d_MO_isIn_15 (by decide) ?_
    refine lv_goto (tgt := 20) hx hb d_MO_isIn_16 (by decide) ?_
    exact rt_z (v := true) hc w d_MO_isIn_20 rfl (by rw [← e0, f_MO_isIn, if_pos q12] <;> rfl)
-- MO_isUser
def f_MO_isUser (σ : MS) : Bool := if (zb (f_MO_isIn σ (4 : Int32))) = 0 then (false) else (if (zb (f_MO_isIn σ (1 : Int32))) = 0 then (true) else (false))
theorem d_MO_isUser_0 : decode b_MO_isUser 0 = .ok (.aload_n 0, 1) := by decide +kernel
theorem d_MO_isUser_1 : decode b_MO_isUser 1 = .ok (.iconst 4, 1) := by decide +kernel
theorem d_MO_isUser_2 : decode b_MO_isUser 2 = .ok (.invokevirtual 93, 3) := by decide +kernel
theorem d_MO_isUser_5 : decode b_MO_isUser 5 = .ok (.ifCond .eq 15, 3) := by decide +kernel
theorem d_MO_isUser_8 : decode b_MO_isUser 8 = .ok (.aload_n 0, 1) := by decide +kernel
theorem d_MO_isUser_9 : decode b_MO_isUser 9 = .ok (.iconst 1, 1) := by decide +kernel
theorem d_MO_isUser_10 : decode b_MO_isUser 10 = .ok (.invokevirtual 93, 3) := by decide +kernel
theorem d_MO_isUser_13 : decode b_MO_isUser 13 = .ok (.ifCond .ne 7, 3) := by decide +kernel
theorem d_MO_isUser_16 : decode b_MO_isUser 16 = .ok (.iconst 1, 1) := by decide +kernel
theorem d_MO_isUser_17 : decode b_MO_isUser 17 = .ok (.goto 4, 3) := by decide +kernel
theorem d_MO_isUser_20 : decode b_MO_isUser 20 = .ok (.iconst 0, 1) := by decide +kernel
theorem d_MO_isUser_21 : decode b_MO_isUser 21 = .ok (.ireturn, 1) := by decide +kernel
set_option maxHeartbeats 4000000 in
set_option maxRecDepth 100000 in
theorem c_MO_isUser (l : Launch) (E : Ev) (ad : Nat → Nat) (σ : MS) : rC xCl l E (mW E ad) y_MO_isUser b_MO_isUser 1 (Option.some Jvm.ClassFile.FieldType.boolean) (rmo 1 21) [.ref (ad 0)] σ ((σ, some (Value.int (zb (f_MO_isUser σ))))) := by
  refine rC.of (by decide) (Nat.le_of_ble_eq_true rfl) ?_
  intro p e s m below meth c A ls hc w hl
  generalize e0 : (σ, some (Value.int (zb (f_MO_isUser σ)))) = Z
  have hc : Cx xCl E A p s m ([.ref (ad 0)] : List Value).toArray meth c b_MO_isUser 1 (Option.some Jvm.ClassFile.FieldType.boolean) "PageMachineModel" := hc
  have hx := hc.1
  have hb := hc.2.1
  have ho := hc.2.2.2.2.2.1
  have hT := hc.2.2.2.2.2.2.1
  have hl : lv_has ls 1 [(0, .ref (ad 0))] := hl
  refine lv_aload_n hx hb d_MO_isUser_0 rfl (lv_at hl 0 rfl) ?_
  refine lv_iconst (v := 4) hx hb d_MO_isUser_1 (by decide) ?_
  refine rVZ (rest := []) hc w (c_MO_isIn l E ad σ (4 : Int32)) kv_MO_isIn mw_1028 0 rfl rfl ⟨Nat.le_of_ble_eq_true rfl, Nat.le_of_ble_eq_true rfl⟩ hl.1 rfl (Nat.le_of_ble_eq_true rfl) ⟨Nat.zero_le _, Nat.zero_le _⟩ d_MO_isUser_2 (fun H locs w => ?_)
  refine lv_if_eq (tgt := 20) hx hb d_MO_isUser_5 (by decide) (fun q5 => ?_) (fun q5 => ?_)
  · refine lv_iconst (v := 0) hx hb d_MO_isUser_20 (by decide) ?_
    exact rt_z (v := false) hc w d_MO_isUser_21 rfl (by rw [← e0, f_MO_isUser, if_pos q5] <;> rfl)
  · refine lv_aload_n hx hb d_MO_isUser_8 rfl (lv_at hl 0 rfl) ?_
    refine lv_iconst (v := 1) hx hb d_MO_isUser_9 (by decide) ?_
    refine rVZ (rest := []) hc w (c_MO_isIn l E ad σ (1 : Int32)) kv_MO_isIn mw_1028 0 rfl rfl ⟨Nat.le_of_ble_eq_true rfl, Nat.le_of_ble_eq_true rfl⟩ hl.1 rfl (Nat.le_of_ble_eq_true rfl) ⟨Nat.zero_le _, Nat.zero_le _⟩ d_MO_isUser_10 (fun H locs w => ?_)
    refine lv_if_ne (tgt := 20) hx hb d_MO_isUser_13 (by decide) (fun q13 => ?_) (fun q13 => ?_)
    · refine lv_iconst (v := 0) hx hb d_MO_isUser_20 (by decide) ?_
      exact rt_z (v := false) hc w d_MO_isUser_21 rfl (by rw [← e0, f_MO_isUser, if_neg q5, if_neg q13] <;> rfl)
    · refine lv_iconst (v := 1) hx hb d_MO_isUser_16 (by decide) ?_
      refine lv_goto (tgt := 21) hx hb d_MO_isUser_17 (by decide) ?_
      exact rt_z (v := true) hc w d_MO_isUser_21 rfl (by rw [← e0, f_MO_isUser, if_neg q5, if_pos q13] <;> rfl)
-- MO_wrong
def f_MO_wrong_c4 (σ17 : MS) (a1 : Int32) (a2 : Int32)  : MS × Bool := (σ17, false)
def f_MO_wrong_c3 (σ12 : MS) (a1 : Int32) (a2 : Int32)  : MS × Bool := f_MO_wrong_c4 (ms_refills σ12 false) a1 a2 
def f_MO_wrong_c2 (σ7 : MS) (a1 : Int32) (a2 : Int32)  : MS × Bool := f_MO_wrong_c3 (ms_hasAddress σ7 true) a1 a2 
def f_MO_wrong_c1 (σ2 : MS) (a1 : Int32) (a2 : Int32)  : MS × Bool := f_MO_wrong_c2 (ms_faultAt σ2 a2) a1 a2 
def f_MO_wrong (σ : MS) (a1 : Int32) (a2 : Int32) : MS × Bool := f_MO_wrong_c1 (ms_fault σ a1) a1 a2 
theorem d_MO_wrong_0 : decode b_MO_wrong 0 = .ok (.aload_n 0, 1) := by decide +kernel
theorem d_MO_wrong_1 : decode b_MO_wrong 1 = .ok (.iload_n 1, 1) := by decide +kernel
theorem d_MO_wrong_2 : decode b_MO_wrong 2 = .ok (.putfield 45, 3) := by decide +kernel
theorem d_MO_wrong_5 : decode b_MO_wrong 5 = .ok (.aload_n 0, 1) := by decide +kernel
theorem d_MO_wrong_6 : decode b_MO_wrong 6 = .ok (.iload_n 2, 1) := by decide +kernel
theorem d_MO_wrong_7 : decode b_MO_wrong 7 = .ok (.putfield 97, 3) := by decide +kernel
theorem d_MO_wrong_10 : decode b_MO_wrong 10 = .ok (.aload_n 0, 1) := by decide +kernel
theorem d_MO_wrong_11 : decode b_MO_wrong 11 = .ok (.iconst 1, 1) := by decide +kernel
theorem d_MO_wrong_12 : decode b_MO_wrong 12 = .ok (.putfield 100, 3) := by decide +kernel
theorem d_MO_wrong_15 : decode b_MO_wrong 15 = .ok (.aload_n 0, 1) := by decide +kernel
theorem d_MO_wrong_16 : decode b_MO_wrong 16 = .ok (.iconst 0, 1) := by decide +kernel
theorem d_MO_wrong_17 : decode b_MO_wrong 17 = .ok (.putfield 103, 3) := by decide +kernel
theorem d_MO_wrong_20 : decode b_MO_wrong 20 = .ok (.iconst 0, 1) := by decide +kernel
theorem d_MO_wrong_21 : decode b_MO_wrong 21 = .ok (.ireturn, 1) := by decide +kernel
set_option maxHeartbeats 4000000 in
set_option maxRecDepth 100000 in
theorem c_MO_wrong (l : Launch) (E : Ev) (ad : Nat → Nat) (σ : MS) (a1 : Int32) (a2 : Int32) : rC xCl l E (mW E ad) y_MO_wrong b_MO_wrong 3 (Option.some Jvm.ClassFile.FieldType.boolean) (rmo 0 0) [.ref (ad 0), .int a1, .int a2] σ (zZ (f_MO_wrong σ a1 a2)) := by
  refine rC.of (by decide) (Nat.le_of_ble_eq_true rfl) ?_
  intro p e s m below meth c A ls hc w hl
  generalize e0 : zZ (f_MO_wrong σ a1 a2) = Z
  have hc : Cx xCl E A p s m ([.ref (ad 0), .int a1, .int a2] : List Value).toArray meth c b_MO_wrong 3 (Option.some Jvm.ClassFile.FieldType.boolean) "PageMachineModel" := hc
  have hx := hc.1
  have hb := hc.2.1
  have ho := hc.2.2.2.2.2.1
  have hT := hc.2.2.2.2.2.2.1
  have hl : lv_has ls 3 [(0, .ref (ad 0)), (1, .int a1), (2, .int a2)] := hl
  refine lv_aload_n hx hb d_MO_wrong_0 rfl (lv_at hl 0 rfl) ?_
  refine lv_iload_n hx hb d_MO_wrong_1 rfl (lv_at hl 1 rfl) ?_
  refine p_MO_fault hc w mw_904 d_MO_wrong_2 (fun σ2 H locs hs2 w => ?_)
  have e_c1 : zZ (f_MO_wrong_c1 σ2 a1 a2 ) = Z := by rw [← e0, f_MO_wrong, hs2]
  refine lv_aload_n hx hb d_MO_wrong_5 rfl (lv_at hl 0 rfl) ?_
  refine lv_iload_n hx hb d_MO_wrong_6 rfl (lv_at hl 2 rfl) ?_
  refine p_MO_faultAt hc w mw_905 d_MO_wrong_7 (fun σ7 H locs hs7 w => ?_)
  have e_c2 : zZ (f_MO_wrong_c2 σ7 a1 a2 ) = Z := by rw [← e_c1, f_MO_wrong_c1, hs7]
  refine lv_aload_n hx hb d_MO_wrong_10 rfl (lv_at hl 0 rfl) ?_
  refine lv_iconst (v := 1) hx hb d_MO_wrong_11 (by decide) ?_
  refine p_MO_hasAddress (v := true) hc w mw_907 d_MO_wrong_12 (fun σ12 H locs hs12 w => ?_)
  have e_c3 : zZ (f_MO_wrong_c3 σ12 a1 a2 ) = Z := by rw [← e_c2, f_MO_wrong_c2, hs12]
  refine lv_aload_n hx hb d_MO_wrong_15 rfl (lv_at hl 0 rfl) ?_
  refine lv_iconst (v := 0) hx hb d_MO_wrong_16 (by decide) ?_
  refine p_MO_refills (v := false) hc w mw_908 d_MO_wrong_17 (fun σ17 H locs hs17 w => ?_)
  have e_c4 : zZ (f_MO_wrong_c4 σ17 a1 a2 ) = Z := by rw [← e_c3, f_MO_wrong_c3, hs17]
  refine lv_iconst (v := 0) hx hb d_MO_wrong_20 (by decide) ?_
  exact rt_z (v := false) hc w d_MO_wrong_21 rfl (by rw [← e_c4, f_MO_wrong_c4] <;> rfl)
-- MO_matches
def f_MO_matches_39 (σ : MS) (a1 : Int32) (a2 : Int32) : Bool := true
def f_MO_matches (σ : MS) (a1 : Int32) (a2 : Int32) : Bool := if (m_pages σ (Int32.toNatClampNeg a1)) = a2 then (if (zb (m_all σ (Int32.toNatClampNeg a1))) = 0 then (if (m_spaces σ (Int32.toNatClampNeg a1)) = ((m_sys σ (Int32.toNatClampNeg (10 : Int32))) &&& (255 : Int32)) then (f_MO_matches_39 σ a1 a2) else (false)) else (f_MO_matches_39 σ a1 a2)) else (false)
theorem d_MO_matches_0 : decode b_MO_matches 0 = .ok (.aload_n 0, 1) := by decide +kernel
theorem d_MO_matches_1 : decode b_MO_matches 1 = .ok (.getfield 24, 3) := by decide +kernel
theorem d_MO_matches_4 : decode b_MO_matches 4 = .ok (.iload_n 1, 1) := by decide +kernel
theorem d_MO_matches_5 : decode b_MO_matches 5 = .ok (.iaload, 1) := by decide +kernel
theorem d_MO_matches_6 : decode b_MO_matches 6 = .ok (.iload_n 2, 1) := by decide +kernel
theorem d_MO_matches_7 : decode b_MO_matches 7 = .ok (.if_icmp .ne 36, 3) := by decide +kernel
theorem d_MO_matches_10 : decode b_MO_matches 10 = .ok (.aload_n 0, 1) := by decide +kernel
theorem d_MO_matches_11 : decode b_MO_matches 11 = .ok (.getfield 30, 3) := by decide +kernel
theorem d_MO_matches_14 : decode b_MO_matches 14 = .ok (.iload_n 1, 1) := by decide +kernel
theorem d_MO_matches_15 : decode b_MO_matches 15 = .ok (.baload, 1) := by decide +kernel
theorem d_MO_matches_16 : decode b_MO_matches 16 = .ok (.ifCond .ne 23, 3) := by decide +kernel
theorem d_MO_matches_19 : decode b_MO_matches 19 = .ok (.aload_n 0, 1) := by decide +kernel
theorem d_MO_matches_20 : decode b_MO_matches 20 = .ok (.getfield 27, 3) := by decide +kernel
theorem d_MO_matches_23 : decode b_MO_matches 23 = .ok (.iload_n 1, 1) := by decide +kernel
theorem d_MO_matches_24 : decode b_MO_matches 24 = .ok (.iaload, 1) := by decide +kernel
theorem d_MO_matches_25 : decode b_MO_matches 25 = .ok (.aload_n 0, 1) := by decide +kernel
theorem d_MO_matches_26 : decode b_MO_matches 26 = .ok (.getfield 17, 3) := by decide +kernel
theorem d_MO_matches_29 : decode b_MO_matches 29 = .ok (.bipush 10, 2) := by decide +kernel
theorem d_MO_matches_31 : decode b_MO_matches 31 = .ok (.iaload, 1) := by decide +kernel
theorem d_MO_matches_32 : decode b_MO_matches 32 = .ok (.sipush 255, 3) := by decide +kernel
theorem d_MO_matches_35 : decode b_MO_matches 35 = .ok (.iand, 1) := by decide +kernel
theorem d_MO_matches_36 : decode b_MO_matches 36 = .ok (.if_icmp .ne 7, 3) := by decide +kernel
theorem d_MO_matches_39 : decode b_MO_matches 39 = .ok (.iconst 1, 1) := by decide +kernel
theorem d_MO_matches_40 : decode b_MO_matches 40 = .ok (.goto 4, 3) := by decide +kernel
theorem d_MO_matches_43 : decode b_MO_matches 43 = .ok (.iconst 0, 1) := by decide +kernel
theorem d_MO_matches_44 : decode b_MO_matches 44 = .ok (.ireturn, 1) := by decide +kernel
set_option maxHeartbeats 4000000 in
set_option maxRecDepth 100000 in
theorem c_MO_matches (l : Launch) (E : Ev) (ad : Nat → Nat) (σ : MS) (a1 : Int32) (a2 : Int32) (h1 : vp_in a1 32) : rC xCl l E (mW E ad) y_MO_matches b_MO_matches 3 (Option.some Jvm.ClassFile.FieldType.boolean) (rmo 0 0) [.ref (ad 0), .int a1, .int a2] σ ((σ, some (Value.int (zb (f_MO_matches σ a1 a2))))) := by
  refine rC.of (by decide) (Nat.le_of_ble_eq_true rfl) ?_
  intro p e s m below meth c A ls hc w hl
  generalize e0 : (σ, some (Value.int (zb (f_MO_matches σ a1 a2)))) = Z
  have hc : Cx xCl E A p s m ([.ref (ad 0), .int a1, .int a2] : List Value).toArray meth c b_MO_matches 3 (Option.some Jvm.ClassFile.FieldType.boolean) "PageMachineModel" := hc
  have hx := hc.1
  have hb := hc.2.1
  have ho := hc.2.2.2.2.2.1
  have hT := hc.2.2.2.2.2.2.1
  have hl : lv_has ls 3 [(0, .ref (ad 0)), (1, .int a1), (2, .int a2)] := hl
  have J39 : ∀ (H : Heap) (locs : List Loc) (ls : Array Slot), Wd xCl E A s.heap H locs (mW E ad σ) → lv_has ls 3 [] → (σ, some (Value.int (zb (f_MO_matches_39 σ a1 a2)))) = Z → W p l e (rmo 0 0) s m ([.ref (ad 0), .int a1, .int a2] : List Value).toArray below meth c H locs 0 0 (MQ below (rQ xCl (mW E ad) E A Z) ([.ref (ad 0), .int a1, .int a2] : List Value).toArray s 0 0 A) (F0 m 39 ls []) := by
    intro  H locs ls w hl e39
    refine lv_iconst (v := 1) hx hb d_MO_matches_39 (by decide) ?_
    refine lv_goto (tgt := 44) hx hb d_MO_matches_40 (by decide) ?_
    exact rt_z (v := true) hc w d_MO_matches_44 rfl (by rw [← e39, f_MO_matches_39] <;> rfl)
  refine lv_aload_n hx hb d_MO_matches_0 rfl (lv_at hl 0 rfl) ?_
  refine g_MO_pages hc w mw_898 d_MO_matches_1 ?_
  refine lv_iload_n hx hb d_MO_matches_4 rfl (lv_at hl 1 rfl) ?_
  refine a_MO_pages hc w h1 d_MO_matches_5 ?_
  refine lv_iload_n hx hb d_MO_matches_6 rfl (lv_at hl 2 rfl) ?_
  refine lv_icmp_ne (tgt := 43) hx hb d_MO_matches_7 (by decide) (fun q7 => ?_) (fun q7 => ?_)
  · refine lv_iconst (v := 0) hx hb d_MO_matches_43 (by decide) ?_
    exact rt_z (v := false) hc w d_MO_matches_44 rfl (by rw [← e0, f_MO_matches, if_neg q7] <;> rfl)
  · refine lv_aload_n hx hb d_MO_matches_10 rfl (lv_at hl 0 rfl) ?_
    refine g_MO_all hc w mw_900 d_MO_matches_11 ?_
    refine lv_iload_n hx hb d_MO_matches_14 rfl (lv_at hl 1 rfl) ?_
    refine a_MO_all hc w h1 d_MO_matches_15 ?_
    refine lv_if_ne (tgt := 39) hx hb d_MO_matches_16 (by decide) (fun q16 => ?_) (fun q16 => ?_)
    · exact J39  _ _ _ w (lv_sub hl [] rfl) (by rw [← e0, f_MO_matches, if_pos q7, if_neg q16])
    · refine lv_aload_n hx hb d_MO_matches_19 rfl (lv_at hl 0 rfl) ?_
      refine g_MO_spaces hc w mw_899 d_MO_matches_20 ?_
      refine lv_iload_n hx hb d_MO_matches_23 rfl (lv_at hl 1 rfl) ?_
      refine a_MO_spaces hc w h1 d_MO_matches_24 ?_
      refine lv_aload_n hx hb d_MO_matches_25 rfl (lv_at hl 0 rfl) ?_
      refine g_MO_sys hc w mw_895 d_MO_matches_26 ?_
      refine lv_bipush (v := 10) hx hb d_MO_matches_29 (by decide) ?_
      refine a_MO_sys hc w (by unfold vp_in; decide) d_MO_matches_31 ?_
      refine lv_sipush (v := 255) hx hb d_MO_matches_32 (by decide) ?_
      refine lv_iand hx hb d_MO_matches_35 ?_
      refine lv_icmp_ne (tgt := 43) hx hb d_MO_matches_36 (by decide) (fun q36 => ?_) (fun q36 => ?_)
      · refine lv_iconst (v := 0) hx hb d_MO_matches_43 (by decide) ?_
        exact rt_z (v := false) hc w d_MO_matches_44 rfl (by rw [← e0, f_MO_matches, if_pos q7, if_pos q16, if_neg q36] <;> rfl)
      · exact J39  _ _ _ w (lv_sub hl [] rfl) (by rw [← e0, f_MO_matches, if_pos q7, if_pos q16, if_pos q36])
-- MO_entryOf
theorem bd_dn {v : Int32} {i : Nat} (hv : v = nI i - 1) (hi : i ≤ 32) (h : ¬ v < 0) : 1 ≤ i ∧ vp_in v 32 ∧ v + (-1) = nI (i - 1) - 1 := by
  subst hv
  cases i with
  | zero => exact absurd (by decide) h
  | succ j =>
    have e : nI (j + 1) - 1 = nI j := nI_pred j
    rw [e]
    exact ⟨by omega, vp_in_nI (by omega) (by decide), by rw [Nat.add_sub_cancel]; rw [Int32.sub_eq_add_neg]⟩
def f_MO_entryOf_5 : Nat → MS → Int32 → Int32 → Int32 → Int32
  | 0, σ, a1, v5_3, v5_2 => 0
  | fuel + 1, σ, a1, v5_3, v5_2 => if v5_3 < 0 then (v5_2) else (if (zb (f_MO_matches σ v5_3 a1)) = 0 then (f_MO_entryOf_5 fuel σ a1 (v5_3 + (-1 : Int32)) v5_2) else (f_MO_entryOf_5 fuel σ a1 (v5_3 + (-1 : Int32)) v5_3))
def f_MO_entryOf (σ : MS) (a1 : Int32) : Int32 := f_MO_entryOf_5 33 σ a1 (31 : Int32) (-1 : Int32)
theorem d_MO_entryOf_0 : decode b_MO_entryOf 0 = .ok (.iconst (-1), 1) := by decide +kernel
theorem d_MO_entryOf_1 : decode b_MO_entryOf 1 = .ok (.istore_n 2, 1) := by decide +kernel
theorem d_MO_entryOf_2 : decode b_MO_entryOf 2 = .ok (.bipush 31, 2) := by decide +kernel
theorem d_MO_entryOf_4 : decode b_MO_entryOf 4 = .ok (.istore_n 3, 1) := by decide +kernel
theorem d_MO_entryOf_5 : decode b_MO_entryOf 5 = .ok (.iload_n 3, 1) := by decide +kernel
theorem d_MO_entryOf_6 : decode b_MO_entryOf 6 = .ok (.ifCond .lt 24, 3) := by decide +kernel
theorem d_MO_entryOf_9 : decode b_MO_entryOf 9 = .ok (.aload_n 0, 1) := by decide +kernel
theorem d_MO_entryOf_10 : decode b_MO_entryOf 10 = .ok (.iload_n 3, 1) := by decide +kernel
theorem d_MO_entryOf_11 : decode b_MO_entryOf 11 = .ok (.iload_n 1, 1) := by decide +kernel
theorem d_MO_entryOf_12 : decode b_MO_entryOf 12 = .ok (.invokevirtual 106, 3) := by decide +kernel
theorem d_MO_entryOf_15 : decode b_MO_entryOf 15 = .ok (.ifCond .eq 7, 3) := by decide +kernel
theorem d_MO_entryOf_18 : decode b_MO_entryOf 18 = .ok (.iload_n 3, 1) := by decide +kernel
theorem d_MO_entryOf_19 : decode b_MO_entryOf 19 = .ok (.goto 4, 3) := by decide +kernel
theorem d_MO_entryOf_22 : decode b_MO_entryOf 22 = .ok (.iload_n 2, 1) := by decide +kernel
theorem d_MO_entryOf_23 : decode b_MO_entryOf 23 = .ok (.istore_n 2, 1) := by decide +kernel
theorem d_MO_entryOf_24 : decode b_MO_entryOf 24 = .ok (.iinc 3 (-1), 3) := by decide +kernel
theorem d_MO_entryOf_27 : decode b_MO_entryOf 27 = .ok (.goto (-22), 3) := by decide +kernel
theorem d_MO_entryOf_30 : decode b_MO_entryOf 30 = .ok (.iload_n 2, 1) := by decide +kernel
theorem d_MO_entryOf_31 : decode b_MO_entryOf 31 = .ok (.ireturn, 1) := by decide +kernel
set_option maxHeartbeats 4000000 in
set_option maxRecDepth 100000 in
theorem c_MO_entryOf (l : Launch) (E : Ev) (ad : Nat → Nat) (σ : MS) (a1 : Int32) : rC xCl l E (mW E ad) y_MO_entryOf b_MO_entryOf 4 (Option.some Jvm.ClassFile.FieldType.int) (rmo 1 22) [.ref (ad 0), .int a1] σ ((σ, some (Value.int (f_MO_entryOf σ a1)))) := by
  refine rC.of (by decide) (Nat.le_of_ble_eq_true rfl) ?_
  intro p e s m below meth c A ls hc w hl
  generalize e0 : (σ, some (Value.int (f_MO_entryOf σ a1))) = Z
  have hc : Cx xCl E A p s m ([.ref (ad 0), .int a1] : List Value).toArray meth c b_MO_entryOf 4 (Option.some Jvm.ClassFile.FieldType.int) "PageMachineModel" := hc
  have hx := hc.1
  have hb := hc.2.1
  have ho := hc.2.2.2.2.2.1
  have hT := hc.2.2.2.2.2.2.1
  have hl : lv_has ls 4 [(0, .ref (ad 0)), (1, .int a1)] := hl
  have J5 : ∀ (fuel : Nat) (v5_3 : Int32) (v5_2 : Int32) , (∃ i : Nat, v5_3 = nI i - 1 ∧ i ≤ 32 ∧ i + 1 = fuel) → ∀ (H : Heap) (locs : List Loc) (ls : Array Slot), Wd xCl E A s.heap H locs (mW E ad σ) → lv_has ls 4 [(3, .int v5_3), (2, .int v5_2), (0, .ref (ad 0)), (1, .int a1)] → (σ, some (Value.int (f_MO_entryOf_5 fuel σ a1 v5_3 v5_2))) = Z → W p l e (rmo 1 22) s m ([.ref (ad 0), .int a1] : List Value).toArray below meth c H locs 0 0 (MQ below (rQ xCl (mW E ad) E A Z) ([.ref (ad 0), .int a1] : List Value).toArray s 0 0 A) (F0 m 5 ls []) := by
    intro fuel
    induction fuel with
    | zero =>
      intro v5_3 v5_2 hinv
      exact absurd hinv (fun ⟨i, _, h1, h2⟩ => by omega)
    | succ fuel ih =>
      intro v5_3 v5_2 hinv H locs ls w hl e5
      obtain ⟨i, hi, hj1, hj2⟩ := hinv
      refine lv_iload_n hx hb d_MO_entryOf_5 rfl (lv_at hl 0 rfl) ?_
      refine lv_if_lt (tgt := 30) hx hb d_MO_entryOf_6 (by decide) (fun q6 => ?_) (fun q6 => ?_)
      · refine lv_iload_n hx hb d_MO_entryOf_30 rfl (lv_at hl 1 rfl) ?_
        exact rt_i hc w d_MO_entryOf_31 (by rw [← e5, f_MO_entryOf_5, if_pos q6] <;> rfl)
      · refine lv_aload_n hx hb d_MO_entryOf_9 rfl (lv_at hl 2 rfl) ?_
        refine lv_iload_n hx hb d_MO_entryOf_10 rfl (lv_at hl 0 rfl) ?_
        refine lv_iload_n hx hb d_MO_entryOf_11 rfl (lv_at hl 3 rfl) ?_
        refine rVZ (rest := []) hc w (c_MO_matches l E ad σ v5_3 a1 ((bd_dn hi hj1 q6).2.1)) kv_MO_matches mw_1064 0 rfl rfl ⟨Nat.le_of_ble_eq_true rfl, Nat.le_of_ble_eq_true rfl⟩ hl.1 rfl (Nat.le_of_ble_eq_true rfl) ⟨Nat.zero_le _, Nat.zero_le _⟩ d_MO_entryOf_12 (fun H locs w => ?_)
        refine lv_if_eq (tgt := 22) hx hb d_MO_entryOf_15 (by decide) (fun q15 => ?_) (fun q15 => ?_)
        · refine lv_iload_n hx hb d_MO_entryOf_22 rfl (lv_at hl 1 rfl) ?_
          refine lv_istore_n (lv' := [(2, .int v5_2), (3, .int v5_3), (0, .ref (ad 0)), (1, .int a1)]) hx hb d_MO_entryOf_23 rfl hl (by decide) rfl (fun ls hl => ?_)
          refine lv_iinc (v := v5_3 + (-1 : Int32)) (lv' := [(3, .int (v5_3 + (-1 : Int32))), (2, .int v5_2), (0, .ref (ad 0)), (1, .int a1)]) hx hb d_MO_entryOf_24 hl (k := 1) rfl rfl (by decide) rfl (fun ls hl => ?_)
          refine lv_goto (tgt := 5) hx hb d_MO_entryOf_27 (by decide) ?_
          exact ih (v5_3 + (-1 : Int32)) v5_2 (⟨i - 1, (bd_dn hi hj1 q6).2.2, by omega, by have := (bd_dn hi hj1 q6).1; omega⟩) _ _ _ w (lv_sub hl [0, 1, 2, 3] rfl) (by rw [← e5, f_MO_entryOf_5, if_neg q6, if_pos q15])
        · refine lv_iload_n hx hb d_MO_entryOf_18 rfl (lv_at hl 0 rfl) ?_
          refine lv_goto (tgt := 23) hx hb d_MO_entryOf_19 (by decide) ?_
          refine lv_istore_n (lv' := [(2, .int v5_3), (3, .int v5_3), (0, .ref (ad 0)), (1, .int a1)]) hx hb d_MO_entryOf_23 rfl hl (by decide) rfl (fun ls hl => ?_)
          refine lv_iinc (v := v5_3 + (-1 : Int32)) (lv' := [(3, .int (v5_3 + (-1 : Int32))), (2, .int v5_3), (0, .ref (ad 0)), (1, .int a1)]) hx hb d_MO_entryOf_24 hl (k := 1) rfl rfl (by decide) rfl (fun ls hl => ?_)
          refine lv_goto (tgt := 5) hx hb d_MO_entryOf_27 (by decide) ?_
          exact ih (v5_3 + (-1 : Int32)) v5_3 (⟨i - 1, (bd_dn hi hj1 q6).2.2, by omega, by have := (bd_dn hi hj1 q6).1; omega⟩) _ _ _ w (lv_sub hl [0, 1, 2, 3] rfl) (by rw [← e5, f_MO_entryOf_5, if_neg q6, if_neg q15])
  refine lv_iconst (v := -1) hx hb d_MO_entryOf_0 (by decide) ?_
  refine lv_istore_n (lv' := [(2, .int (-1 : Int32)), (0, .ref (ad 0)), (1, .int a1)]) hx hb d_MO_entryOf_1 rfl hl (by decide) rfl (fun ls hl => ?_)
  refine lv_bipush (v := 31) hx hb d_MO_entryOf_2 (by decide) ?_
  refine lv_istore_n (lv' := [(3, .int (31 : Int32)), (2, .int (-1 : Int32)), (0, .ref (ad 0)), (1, .int a1)]) hx hb d_MO_entryOf_4 rfl hl (by decide) rfl (fun ls hl => ?_)
  exact J5 33 (31 : Int32) (-1 : Int32) (⟨32, by decide, by omega, by omega⟩) _ _ _ w (lv_sub hl [0, 1, 2, 3] rfl) (by rw [← e0, f_MO_entryOf])
