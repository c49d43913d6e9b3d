-- BR_holds
def f_BR_holds (σ : XS) (a1 : Int32) (a2 : Int32) (a3 : Int32) : Bool := if a1 = (0 : Int32) then (if a2 = a3 then (true) else (false)) else (if a1 = (1 : Int32) then (if a2 = a3 then (false) else (true)) else (if a1 = (2 : Int32) then (if 0 < a2 then (false) else (true)) else (if a2 ≤ 0 then (false) else (true))))
theorem d_BR_holds_0 : decode b_BR_holds 0 = .ok (.iload_n 0, 1) := by decide +kernel
theorem d_BR_holds_1 : decode b_BR_holds 1 = .ok (.tableswitch 59 0 2 #[27, 38, 49], 27) := by decide +kernel
theorem d_BR_holds_28 : decode b_BR_holds 28 = .ok (.iload_n 1, 1) := by decide +kernel
theorem d_BR_holds_29 : decode b_BR_holds 29 = .ok (.iload_n 2, 1) := by decide +kernel
theorem d_BR_holds_30 : decode b_BR_holds 30 = .ok (.if_icmp .ne 7, 3) := by decide +kernel
theorem d_BR_holds_33 : decode b_BR_holds 33 = .ok (.iconst 1, 1) := by decide +kernel
theorem d_BR_holds_34 : decode b_BR_holds 34 = .ok (.goto 4, 3) := by decide +kernel
theorem d_BR_holds_37 : decode b_BR_holds 37 = .ok (.iconst 0, 1) := by decide +kernel
theorem d_BR_holds_38 : decode b_BR_holds 38 = .ok (.ireturn, 1) := by decide +kernel
theorem d_BR_holds_39 : decode b_BR_holds 39 = .ok (.iload_n 1, 1) := by decide +kernel
theorem d_BR_holds_40 : decode b_BR_holds 40 = .ok (.iload_n 2, 1) := by decide +kernel
theorem d_BR_holds_41 : decode b_BR_holds 41 = .ok (.if_icmp .eq 7, 3) := by decide +kernel
theorem d_BR_holds_44 : decode b_BR_holds 44 = .ok (.iconst 1, 1) := by decide +kernel
theorem d_BR_holds_45 : decode b_BR_holds 45 = .ok (.goto 4, 3) := by decide +kernel
theorem d_BR_holds_48 : decode b_BR_holds 48 = .ok (.iconst 0, 1) := by decide +kernel
theorem d_BR_holds_49 : decode b_BR_holds 49 = .ok (.ireturn, 1) := by decide +kernel
theorem d_BR_holds_50 : decode b_BR_holds 50 = .ok (.iload_n 1, 1) := by decide +kernel
theorem d_BR_holds_51 : decode b_BR_holds 51 = .ok (.ifCond .gt 7, 3) := by decide +kernel
theorem d_BR_holds_54 : decode b_BR_holds 54 = .ok (.iconst 1, 1) := by decide +kernel
theorem d_BR_holds_55 : decode b_BR_holds 55 = .ok (.goto 4, 3) := by decide +kernel
theorem d_BR_holds_58 : decode b_BR_holds 58 = .ok (.iconst 0, 1) := by decide +kernel
theorem d_BR_holds_59 : decode b_BR_holds 59 = .ok (.ireturn, 1) := by decide +kernel
theorem d_BR_holds_60 : decode b_BR_holds 60 = .ok (.iload_n 1, 1) := by decide +kernel
theorem d_BR_holds_61 : decode b_BR_holds 61 = .ok (.ifCond .le 7, 3) := by decide +kernel
theorem d_BR_holds_64 : decode b_BR_holds 64 = .ok (.iconst 1, 1) := by decide +kernel
theorem d_BR_holds_65 : decode b_BR_holds 65 = .ok (.goto 4, 3) := by decide +kernel
theorem d_BR_holds_68 : decode b_BR_holds 68 = .ok (.iconst 0, 1) := by decide +kernel
theorem d_BR_holds_69 : decode b_BR_holds 69 = .ok (.ireturn, 1) := by decide +kernel
set_option maxHeartbeats 4000000 in
set_option maxRecDepth 100000 in
theorem c_BR_holds (l : Launch) (E : Ev) (ad : Nat → Nat) (σ : XS) (a1 : Int32) (a2 : Int32) (a3 : Int32) : rC xCl l E (xW E ad) y_BR_holds b_BR_holds 3 (Option.some Jvm.ClassFile.FieldType.boolean) (rmo 0 0) [.int a1, .int a2, .int a3] σ ((σ, some (Value.int (zb (f_BR_holds σ a1 a2 a3))))) := by
  refine rC.of (by decide) (Nat.le_of_ble_eq_true rfl) ?_
  intro p e s m below meth c A ls hc w hl
  generalize e0 : (σ, some (Value.int (zb (f_BR_holds σ a1 a2 a3)))) = Z
  have hc : Cx xCl E A p s m ([.int a1, .int a2, .int a3] : List Value).toArray meth c b_BR_holds 3 (Option.some Jvm.ClassFile.FieldType.boolean) "PageMachine$Branches" := hc
  have hx := hc.1
  have hb := hc.2.1
  have ho := hc.2.2.2.2.2.1
  have hT := hc.2.2.2.2.2.2.1
  have hl : lv_has ls 3 [(0, .int a1), (1, .int a2), (2, .int a3)] := hl
  refine lv_iload_n hx hb d_BR_holds_0 rfl (lv_at hl 0 rfl) ?_
  by_cases q1_0 : a1 = (0 : Int32)
  · refine lv_tableIn (tgt := 28) (off := 27) hx hb d_BR_holds_1 (by rw [q1_0]; decide) (by rw [q1_0]; decide) (by rw [q1_0]; rfl) (by decide) ?_
    refine lv_iload_n hx hb d_BR_holds_28 rfl (lv_at hl 1 rfl) ?_
    refine lv_iload_n hx hb d_BR_holds_29 rfl (lv_at hl 2 rfl) ?_
    refine lv_icmp_ne (tgt := 37) hx hb d_BR_holds_30 (by decide) (fun q30 => ?_) (fun q30 => ?_)
    · refine lv_iconst (v := 0) hx hb d_BR_holds_37 (by decide) ?_
      exact rt_z (v := false) hc w d_BR_holds_38 rfl (by rw [← e0, f_BR_holds, if_pos q1_0, if_neg q30] <;> rfl)
    · refine lv_iconst (v := 1) hx hb d_BR_holds_33 (by decide) ?_
      refine lv_goto (tgt := 38) hx hb d_BR_holds_34 (by decide) ?_
      exact rt_z (v := true) hc w d_BR_holds_38 rfl (by rw [← e0, f_BR_holds, if_pos q1_0, if_pos q30] <;> rfl)
  · by_cases q1_1 : a1 = (1 : Int32)
    · refine lv_tableIn (tgt := 39) (off := 38) hx hb d_BR_holds_1 (by rw [q1_1]; decide) (by rw [q1_1]; decide) (by rw [q1_1]; rfl) (by decide) ?_
      refine lv_iload_n hx hb d_BR_holds_39 rfl (lv_at hl 1 rfl) ?_
      refine lv_iload_n hx hb d_BR_holds_40 rfl (lv_at hl 2 rfl) ?_
      refine lv_icmp_eq (tgt := 48) hx hb d_BR_holds_41 (by decide) (fun q41 => ?_) (fun q41 => ?_)
      · refine lv_iconst (v := 0) hx hb d_BR_holds_48 (by decide) ?_
        exact rt_z (v := false) hc w d_BR_holds_49 rfl (by rw [← e0, f_BR_holds, if_neg q1_0, if_pos q1_1, if_pos q41] <;> rfl)
      · refine lv_iconst (v := 1) hx hb d_BR_holds_44 (by decide) ?_
        refine lv_goto (tgt := 49) hx hb d_BR_holds_45 (by decide) ?_
        exact rt_z (v := true) hc w d_BR_holds_49 rfl (by rw [← e0, f_BR_holds, if_neg q1_0, if_pos q1_1, if_neg q41] <;> rfl)
    · by_cases q1_2 : a1 = (2 : Int32)
      · refine lv_tableIn (tgt := 50) (off := 49) hx hb d_BR_holds_1 (by rw [q1_2]; decide) (by rw [q1_2]; decide) (by rw [q1_2]; rfl) (by decide) ?_
        refine lv_iload_n hx hb d_BR_holds_50 rfl (lv_at hl 1 rfl) ?_
        refine lv_if_gt (tgt := 58) hx hb d_BR_holds_51 (by decide) (fun q51 => ?_) (fun q51 => ?_)
        · refine lv_iconst (v := 0) hx hb d_BR_holds_58 (by decide) ?_
          exact rt_z (v := false) hc w d_BR_holds_59 rfl (by rw [← e0, f_BR_holds, if_neg q1_0, if_neg q1_1, if_pos q1_2, if_pos q51] <;> rfl)
        · refine lv_iconst (v := 1) hx hb d_BR_holds_54 (by decide) ?_
          refine lv_goto (tgt := 59) hx hb d_BR_holds_55 (by decide) ?_
          exact rt_z (v := true) hc w d_BR_holds_59 rfl (by rw [← e0, f_BR_holds, if_neg q1_0, if_neg q1_1, if_pos q1_2, if_neg q51] <;> rfl)
      · refine lv_tableOut (tgt := 60) hx hb d_BR_holds_1 (by have k0 := ne_k q1_0 (n := 0) (by decide); have k1 := ne_k q1_1 (n := 1) (by decide); have k2 := ne_k q1_2 (n := 2) (by decide); omega) (by decide) ?_
        refine lv_iload_n hx hb d_BR_holds_60 rfl (lv_at hl 1 rfl) ?_
        refine lv_if_le (tgt := 68) hx hb d_BR_holds_61 (by decide) (fun q61 => ?_) (fun q61 => ?_)
        · refine lv_iconst (v := 0) hx hb d_BR_holds_68 (by decide) ?_
          exact rt_z (v := false) hc w d_BR_holds_69 rfl (by rw [← e0, f_BR_holds, if_neg q1_0, if_neg q1_1, if_neg q1_2, if_pos q61] <;> rfl)
        · refine lv_iconst (v := 1) hx hb d_BR_holds_64 (by decide) ?_
          refine lv_goto (tgt := 69) hx hb d_BR_holds_65 (by decide) ?_
          exact rt_z (v := true) hc w d_BR_holds_69 rfl (by rw [← e0, f_BR_holds, if_neg q1_0, if_neg q1_1, if_neg q1_2, if_neg q61] <;> rfl)
-- BR_branch
def f_BR_branch_c3 (z27 : XS) (a1 : Bool) (a2 : Bool)  : XS := z27
def f_BR_branch_c2 (z51 : XS) (a1 : Bool) (a2 : Bool)  : XS := z51
def f_BR_branch_c1 (z71 : XS) (a1 : Bool) (a2 : Bool)  : XS := z71
def f_BR_branch (σ : XS) (a1 : Bool) (a2 : Bool) : XS := if (zb a1) = 0 then (if (zb a2) = 0 then (f_BR_branch_c1 (f_CO_goBehindSlotTo σ ((x_pc σ) + (8 : Int32))) a1 a2 ) else (f_BR_branch_c2 (f_CO_goAtOnceTo σ ((x_pc σ) + (8 : Int32))) a1 a2 )) else (f_BR_branch_c3 (f_CO_goBehindSlotTo σ (((x_pc σ) + (4 : Int32)) + ((4 : Int32) * (f_CO_signedImmediate σ)))) a1 a2 )
theorem d_BR_branch_0 : decode b_BR_branch 0 = .ok (.iload_n 1, 1) := by decide +kernel
theorem d_BR_branch_1 : decode b_BR_branch 1 = .ok (.ifCond .eq 32, 3) := by decide +kernel
theorem d_BR_branch_4 : decode b_BR_branch 4 = .ok (.aload_n 0, 1) := by decide +kernel
theorem d_BR_branch_5 : decode b_BR_branch 5 = .ok (.getfield 7, 3) := by decide +kernel
theorem d_BR_branch_8 : decode b_BR_branch 8 = .ok (.aload_n 0, 1) := by decide +kernel
theorem d_BR_branch_9 : decode b_BR_branch 9 = .ok (.getfield 7, 3) := by decide +kernel
theorem d_BR_branch_12 : decode b_BR_branch 12 = .ok (.getfield 32, 3) := by decide +kernel
theorem d_BR_branch_15 : decode b_BR_branch 15 = .ok (.iconst 4, 1) := by decide +kernel
theorem d_BR_branch_16 : decode b_BR_branch 16 = .ok (.iadd, 1) := by decide +kernel
theorem d_BR_branch_17 : decode b_BR_branch 17 = .ok (.iconst 4, 1) := by decide +kernel
theorem d_BR_branch_18 : decode b_BR_branch 18 = .ok (.aload_n 0, 1) := by decide +kernel
theorem d_BR_branch_19 : decode b_BR_branch 19 = .ok (.getfield 7, 3) := by decide +kernel
theorem d_BR_branch_22 : decode b_BR_branch 22 = .ok (.invokevirtual 61, 3) := by decide +kernel
theorem d_BR_branch_25 : decode b_BR_branch 25 = .ok (.imul, 1) := by decide +kernel
theorem d_BR_branch_26 : decode b_BR_branch 26 = .ok (.iadd, 1) := by decide +kernel
theorem d_BR_branch_27 : decode b_BR_branch 27 = .ok (.invokevirtual 25, 3) := by decide +kernel
theorem d_BR_branch_30 : decode b_BR_branch 30 = .ok (.goto 44, 3) := by decide +kernel
theorem d_BR_branch_33 : decode b_BR_branch 33 = .ok (.iload_n 2, 1) := by decide +kernel
theorem d_BR_branch_34 : decode b_BR_branch 34 = .ok (.ifCond .eq 23, 3) := by decide +kernel
theorem d_BR_branch_37 : decode b_BR_branch 37 = .ok (.aload_n 0, 1) := by decide +kernel
theorem d_BR_branch_38 : decode b_BR_branch 38 = .ok (.getfield 7, 3) := by decide +kernel
theorem d_BR_branch_41 : decode b_BR_branch 41 = .ok (.aload_n 0, 1) := by decide +kernel
theorem d_BR_branch_42 : decode b_BR_branch 42 = .ok (.getfield 7, 3) := by decide +kernel
theorem d_BR_branch_45 : decode b_BR_branch 45 = .ok (.getfield 32, 3) := by decide +kernel
theorem d_BR_branch_48 : decode b_BR_branch 48 = .ok (.bipush 8, 2) := by decide +kernel
theorem d_BR_branch_50 : decode b_BR_branch 50 = .ok (.iadd, 1) := by decide +kernel
theorem d_BR_branch_51 : decode b_BR_branch 51 = .ok (.invokevirtual 64, 3) := by decide +kernel
theorem d_BR_branch_54 : decode b_BR_branch 54 = .ok (.goto 20, 3) := by decide +kernel
theorem d_BR_branch_57 : decode b_BR_branch 57 = .ok (.aload_n 0, 1) := by decide +kernel
theorem d_BR_branch_58 : decode b_BR_branch 58 = .ok (.getfield 7, 3) := by decide +kernel
theorem d_BR_branch_61 : decode b_BR_branch 61 = .ok (.aload_n 0, 1) := by decide +kernel
theorem d_BR_branch_62 : decode b_BR_branch 62 = .ok (.getfield 7, 3) := by decide +kernel
theorem d_BR_branch_65 : decode b_BR_branch 65 = .ok (.getfield 32, 3) := by decide +kernel
theorem d_BR_branch_68 : decode b_BR_branch 68 = .ok (.bipush 8, 2) := by decide +kernel
theorem d_BR_branch_70 : decode b_BR_branch 70 = .ok (.iadd, 1) := by decide +kernel
theorem d_BR_branch_71 : decode b_BR_branch 71 = .ok (.invokevirtual 25, 3) := by decide +kernel
theorem d_BR_branch_74 : decode b_BR_branch 74 = .ok (.return_, 1) := by decide +kernel
set_option maxHeartbeats 4000000 in
set_option maxRecDepth 100000 in
theorem c_BR_branch (l : Launch) (E : Ev) (ad : Nat → Nat) (σ : XS) (a1 : Bool) (a2 : Bool) : rC xCl l E (xW E ad) y_BR_branch b_BR_branch 3 (Option.none : Option Jvm.ClassFile.FieldType) (rmo 1 21) [.ref (ad 8), .int (zb a1), .int (zb a2)] σ (zV (f_BR_branch σ a1 a2)) := by
  refine rC.of (by decide) (Nat.le_of_ble_eq_true rfl) ?_
  intro p e s m below meth c A ls hc w hl
  generalize e0 : zV (f_BR_branch σ a1 a2) = Z
  have hc : Cx xCl E A p s m ([.ref (ad 8), .int (zb a1), .int (zb a2)] : List Value).toArray meth c b_BR_branch 3 (Option.none : Option Jvm.ClassFile.FieldType) "PageMachine$Branches" := hc
  have hx := hc.1
  have hb := hc.2.1
  have ho := hc.2.2.2.2.2.1
  have hT := hc.2.2.2.2.2.2.1
  have hl : lv_has ls 3 [(0, .ref (ad 8)), (1, .int (zb a1)), (2, .int (zb a2))] := hl
  refine lv_iload_n hx hb d_BR_branch_0 rfl (lv_at hl 1 rfl) ?_
  refine lv_if_eq (tgt := 33) hx hb d_BR_branch_1 (by decide) (fun q1 => ?_) (fun q1 => ?_)
  · refine lv_iload_n hx hb d_BR_branch_33 rfl (lv_at hl 2 rfl) ?_
    refine lv_if_eq (tgt := 57) hx hb d_BR_branch_34 (by decide) (fun q34 => ?_) (fun q34 => ?_)
    · refine lv_aload_n hx hb d_BR_branch_57 rfl (lv_at hl 0 rfl) ?_
      refine g_BR_core hc w mw_171 d_BR_branch_58 ?_
      refine lv_aload_n hx hb d_BR_branch_61 rfl (lv_at hl 0 rfl) ?_
      refine g_BR_core hc w mw_171 d_BR_branch_62 ?_
      refine g_CO_pc hc w mw_112 d_BR_branch_65 ?_
      refine lv_bipush (v := 8) hx hb d_BR_branch_68 (by decide) ?_
      refine lv_iadd hx hb d_BR_branch_70 ?_
      refine cVV (rest := []) hc w (c_CO_goBehindSlotTo l E ad σ ((x_pc σ) + (8 : Int32))) kv_CO_goBehindSlotTo mw_556 5 rfl rfl ⟨Nat.le_of_ble_eq_true rfl, Nat.le_of_ble_eq_true rfl⟩ hl.1 rfl (Nat.le_of_ble_eq_true rfl) ⟨Nat.zero_le _, Nat.zero_le _⟩ d_BR_branch_71 (fun z71 H locs hs71 w => ?_)
      have e_c1 : zV (f_BR_branch_c1 z71 a1 a2 ) = Z := by rw [← e0, f_BR_branch, if_pos q1, if_pos q34, hs71]
      exact rt_v hc w d_BR_branch_74 (by rw [← e_c1, f_BR_branch_c1] <;> rfl)
    · refine lv_aload_n hx hb d_BR_branch_37 rfl (lv_at hl 0 rfl) ?_
      refine g_BR_core hc w mw_171 d_BR_branch_38 ?_
      refine lv_aload_n hx hb d_BR_branch_41 rfl (lv_at hl 0 rfl) ?_
      refine g_BR_core hc w mw_171 d_BR_branch_42 ?_
      refine g_CO_pc hc w mw_112 d_BR_branch_45 ?_
      refine lv_bipush (v := 8) hx hb d_BR_branch_48 (by decide) ?_
      refine lv_iadd hx hb d_BR_branch_50 ?_
      refine cVV (rest := []) hc w (c_CO_goAtOnceTo l E ad σ ((x_pc σ) + (8 : Int32))) kv_CO_goAtOnceTo mw_661 5 rfl rfl ⟨Nat.le_of_ble_eq_true rfl, Nat.le_of_ble_eq_true rfl⟩ hl.1 rfl (Nat.le_of_ble_eq_true rfl) ⟨Nat.zero_le _, Nat.zero_le _⟩ d_BR_branch_51 (fun z51 H locs hs51 w => ?_)
      have e_c2 : zV (f_BR_branch_c2 z51 a1 a2 ) = Z := by rw [← e0, f_BR_branch, if_pos q1, if_neg q34, hs51]
      refine lv_goto (tgt := 74) hx hb d_BR_branch_54 (by decide) ?_
      exact rt_v hc w d_BR_branch_74 (by rw [← e_c2, f_BR_branch_c2] <;> rfl)
  · refine lv_aload_n hx hb d_BR_branch_4 rfl (lv_at hl 0 rfl) ?_
    refine g_BR_core hc w mw_171 d_BR_branch_5 ?_
    refine lv_aload_n hx hb d_BR_branch_8 rfl (lv_at hl 0 rfl) ?_
    refine g_BR_core hc w mw_171 d_BR_branch_9 ?_
    refine g_CO_pc hc w mw_112 d_BR_branch_12 ?_
    refine lv_iconst (v := 4) hx hb d_BR_branch_15 (by decide) ?_
    refine lv_iadd hx hb d_BR_branch_16 ?_
    refine lv_iconst (v := 4) hx hb d_BR_branch_17 (by decide) ?_
    refine lv_aload_n hx hb d_BR_branch_18 rfl (lv_at hl 0 rfl) ?_
    refine g_BR_core hc w mw_171 d_BR_branch_19 ?_
    refine rVI (rest := [.int (4 : Int32), .int ((x_pc σ) + (4 : Int32)), .ref (ad 5)]) hc w (c_CO_signedImmediate l E ad σ) kv_CO_signedImmediate mw_657 5 rfl rfl ⟨Nat.le_of_ble_eq_true rfl, Nat.le_of_ble_eq_true rfl⟩ hl.1 rfl (Nat.le_of_ble_eq_true rfl) ⟨Nat.zero_le _, Nat.zero_le _⟩ d_BR_branch_22 (fun H locs w => ?_)
    refine lv_imul hx hb d_BR_branch_25 ?_
    refine lv_iadd hx hb d_BR_branch_26 ?_
    refine cVV (rest := []) hc w (c_CO_goBehindSlotTo l E ad σ (((x_pc σ) + (4 : Int32)) + ((4 : Int32) * (f_CO_signedImmediate σ)))) kv_CO_goBehindSlotTo mw_556 5 rfl rfl ⟨Nat.le_of_ble_eq_true rfl, Nat.le_of_ble_eq_true rfl⟩ hl.1 rfl (Nat.le_of_ble_eq_true rfl) ⟨Nat.zero_le _, Nat.zero_le _⟩ d_BR_branch_27 (fun z27 H locs hs27 w => ?_)
    have e_c3 : zV (f_BR_branch_c3 z27 a1 a2 ) = Z := by rw [← e0, f_BR_branch, if_neg q1, hs27]
    refine lv_goto (tgt := 74) hx hb d_BR_branch_30 (by decide) ?_
    exact rt_v hc w d_BR_branch_74 (by rw [← e_c3, f_BR_branch_c3] <;> rfl)
-- BR_jumpToRegister
def f_BR_jumpToRegister_c2 (z52 : XS × Int32) (a1 : Bool)  : XS × Int32 := (z52.1, z52.2)
def f_BR_jumpToRegister_c1 (z24 : XS) (a1 : Bool)  : XS × Int32 := if (zb a1) = 0 then ((z24, (-1 : Int32))) else (f_BR_jumpToRegister_c2 (f_CO_put z24 (f_CO_rd z24) ((x_pc z24) + (8 : Int32))) a1 )
def f_BR_jumpToRegister (σ : XS) (a1 : Bool) : XS × Int32 := if (zb (x_inds σ)) = 0 then (f_BR_jumpToRegister_c1 (f_CO_goBehindSlotTo σ (f_CO_s σ)) a1 ) else ((σ, (10 : Int32)))
theorem d_BR_jumpToRegister_0 : decode b_BR_jumpToRegister 0 = .ok (.aload_n 0, 1) := by decide +kernel
theorem d_BR_jumpToRegister_1 : decode b_BR_jumpToRegister 1 = .ok (.getfield 7, 3) := by decide +kernel
theorem d_BR_jumpToRegister_4 : decode b_BR_jumpToRegister 4 = .ok (.getfield 13, 3) := by decide +kernel
theorem d_BR_jumpToRegister_7 : decode b_BR_jumpToRegister 7 = .ok (.ifCond .eq 6, 3) := by decide +kernel
theorem d_BR_jumpToRegister_10 : decode b_BR_jumpToRegister 10 = .ok (.bipush 10, 2) := by decide +kernel
theorem d_BR_jumpToRegister_12 : decode b_BR_jumpToRegister 12 = .ok (.ireturn, 1) := by decide +kernel
theorem d_BR_jumpToRegister_13 : decode b_BR_jumpToRegister 13 = .ok (.aload_n 0, 1) := by decide +kernel
theorem d_BR_jumpToRegister_14 : decode b_BR_jumpToRegister 14 = .ok (.getfield 7, 3) := by decide +kernel
theorem d_BR_jumpToRegister_17 : decode b_BR_jumpToRegister 17 = .ok (.aload_n 0, 1) := by decide +kernel
theorem d_BR_jumpToRegister_18 : decode b_BR_jumpToRegister 18 = .ok (.getfield 7, 3) := by decide +kernel
theorem d_BR_jumpToRegister_21 : decode b_BR_jumpToRegister 21 = .ok (.invokevirtual 21, 3) := by decide +kernel
theorem d_BR_jumpToRegister_24 : decode b_BR_jumpToRegister 24 = .ok (.invokevirtual 25, 3) := by decide +kernel
theorem d_BR_jumpToRegister_27 : decode b_BR_jumpToRegister 27 = .ok (.iload_n 1, 1) := by decide +kernel
theorem d_BR_jumpToRegister_28 : decode b_BR_jumpToRegister 28 = .ok (.ifCond .eq 30, 3) := by decide +kernel
theorem d_BR_jumpToRegister_31 : decode b_BR_jumpToRegister 31 = .ok (.aload_n 0, 1) := by decide +kernel
theorem d_BR_jumpToRegister_32 : decode b_BR_jumpToRegister 32 = .ok (.getfield 7, 3) := by decide +kernel
theorem d_BR_jumpToRegister_35 : decode b_BR_jumpToRegister 35 = .ok (.aload_n 0, 1) := by decide +kernel
theorem d_BR_jumpToRegister_36 : decode b_BR_jumpToRegister 36 = .ok (.getfield 7, 3) := by decide +kernel
theorem d_BR_jumpToRegister_39 : decode b_BR_jumpToRegister 39 = .ok (.invokevirtual 29, 3) := by decide +kernel
theorem d_BR_jumpToRegister_42 : decode b_BR_jumpToRegister 42 = .ok (.aload_n 0, 1) := by decide +kernel
theorem d_BR_jumpToRegister_43 : decode b_BR_jumpToRegister 43 = .ok (.getfield 7, 3) := by decide +kernel
theorem d_BR_jumpToRegister_46 : decode b_BR_jumpToRegister 46 = .ok (.getfield 32, 3) := by decide +kernel
theorem d_BR_jumpToRegister_49 : decode b_BR_jumpToRegister 49 = .ok (.bipush 8, 2) := by decide +kernel
theorem d_BR_jumpToRegister_51 : decode b_BR_jumpToRegister 51 = .ok (.iadd, 1) := by decide +kernel
theorem d_BR_jumpToRegister_52 : decode b_BR_jumpToRegister 52 = .ok (.invokevirtual 36, 3) := by decide +kernel
theorem d_BR_jumpToRegister_55 : decode b_BR_jumpToRegister 55 = .ok (.goto 4, 3) := by decide +kernel
theorem d_BR_jumpToRegister_58 : decode b_BR_jumpToRegister 58 = .ok (.iconst (-1), 1) := by decide +kernel
theorem d_BR_jumpToRegister_59 : decode b_BR_jumpToRegister 59 = .ok (.ireturn, 1) := by decide +kernel
set_option maxHeartbeats 4000000 in
set_option maxRecDepth 100000 in
theorem c_BR_jumpToRegister (l : Launch) (E : Ev) (ad : Nat → Nat) (σ : XS) (a1 : Bool) : rC xCl l E (xW E ad) y_BR_jumpToRegister b_BR_jumpToRegister 2 (Option.some Jvm.ClassFile.FieldType.int) (rmo 1 22) [.ref (ad 8), .int (zb a1)] σ (zI (f_BR_jumpToRegister σ a1)) := by
  refine rC.of (by decide) (Nat.le_of_ble_eq_true rfl) ?_
  intro p e s m below meth c A ls hc w hl
  generalize e0 : zI (f_BR_jumpToRegister σ a1) = Z
  have hc : Cx xCl E A p s m ([.ref (ad 8), .int (zb a1)] : List Value).toArray meth c b_BR_jumpToRegister 2 (Option.some Jvm.ClassFile.FieldType.int) "PageMachine$Branches" := hc
  have hx := hc.1
  have hb := hc.2.1
  have ho := hc.2.2.2.2.2.1
  have hT := hc.2.2.2.2.2.2.1
  have hl : lv_has ls 2 [(0, .ref (ad 8)), (1, .int (zb a1))] := hl
  refine lv_aload_n hx hb d_BR_jumpToRegister_0 rfl (lv_at hl 0 rfl) ?_
  refine g_BR_core hc w mw_171 d_BR_jumpToRegister_1 ?_
  refine g_CO_inDelaySlot hc w mw_118 d_BR_jumpToRegister_4 ?_
  refine lv_if_eq (tgt := 13) hx hb d_BR_jumpToRegister_7 (by decide) (fun q7 => ?_) (fun q7 => ?_)
  · refine lv_aload_n hx hb d_BR_jumpToRegister_13 rfl (lv_at hl 0 rfl) ?_
    refine g_BR_core hc w mw_171 d_BR_jumpToRegister_14 ?_
    refine lv_aload_n hx hb d_BR_jumpToRegister_17 rfl (lv_at hl 0 rfl) ?_
    refine g_BR_core hc w mw_171 d_BR_jumpToRegister_18 ?_
    refine rVI (rest := [.ref (ad 5)]) hc w (c_CO_s l E ad σ) kv_CO_s mw_552 5 rfl rfl ⟨Nat.le_of_ble_eq_true rfl, Nat.le_of_ble_eq_true rfl⟩ hl.1 rfl (Nat.le_of_ble_eq_true rfl) ⟨Nat.zero_le _, Nat.zero_le _⟩ d_BR_jumpToRegister_21 (fun H locs w => ?_)
    refine cVV (rest := []) hc w (c_CO_goBehindSlotTo l E ad σ (f_CO_s σ)) kv_CO_goBehindSlotTo mw_556 5 rfl rfl ⟨Nat.le_of_ble_eq_true rfl, Nat.le_of_ble_eq_true rfl⟩ hl.1 rfl (Nat.le_of_ble_eq_true rfl) ⟨Nat.zero_le _, Nat.zero_le _⟩ d_BR_jumpToRegister_24 (fun z24 H locs hs24 w => ?_)
    have e_c1 : zI (f_BR_jumpToRegister_c1 z24 a1 ) = Z := by rw [← e0, f_BR_jumpToRegister, if_pos q7, hs24]
    refine lv_iload_n hx hb d_BR_jumpToRegister_27 rfl (lv_at hl 1 rfl) ?_
    refine lv_if_eq (tgt := 58) hx hb d_BR_jumpToRegister_28 (by decide) (fun q28 => ?_) (fun q28 => ?_)
    · refine lv_iconst (v := -1) hx hb d_BR_jumpToRegister_58 (by decide) ?_
      exact rt_i hc w d_BR_jumpToRegister_59 (by rw [← e_c1, f_BR_jumpToRegister_c1, if_pos q28] <;> rfl)
    · refine lv_aload_n hx hb d_BR_jumpToRegister_31 rfl (lv_at hl 0 rfl) ?_
      refine g_BR_core hc w mw_171 d_BR_jumpToRegister_32 ?_
      refine lv_aload_n hx hb d_BR_jumpToRegister_35 rfl (lv_at hl 0 rfl) ?_
      refine g_BR_core hc w mw_171 d_BR_jumpToRegister_36 ?_
      refine rVI (rest := [.ref (ad 5)]) hc w (c_CO_rd l E ad z24) kv_CO_rd mw_560 5 rfl rfl ⟨Nat.le_of_ble_eq_true rfl, Nat.le_of_ble_eq_true rfl⟩ hl.1 rfl (Nat.le_of_ble_eq_true rfl) ⟨Nat.zero_le _, Nat.zero_le _⟩ d_BR_jumpToRegister_39 (fun H locs w => ?_)
      refine lv_aload_n hx hb d_BR_jumpToRegister_42 rfl (lv_at hl 0 rfl) ?_
      refine g_BR_core hc w mw_171 d_BR_jumpToRegister_43 ?_
      refine g_CO_pc hc w mw_112 d_BR_jumpToRegister_46 ?_
      refine lv_bipush (v := 8) hx hb d_BR_jumpToRegister_49 (by decide) ?_
      refine lv_iadd hx hb d_BR_jumpToRegister_51 ?_
      refine cVI (rest := []) hc w (c_CO_put l E ad z24 (f_CO_rd z24) ((x_pc z24) + (8 : Int32))) kv_CO_put mw_564 5 rfl rfl ⟨Nat.le_of_ble_eq_true rfl, Nat.le_of_ble_eq_true rfl⟩ hl.1 rfl (Nat.le_of_ble_eq_true rfl) ⟨Nat.zero_le _, Nat.zero_le _⟩ d_BR_jumpToRegister_52 (fun z52 H locs hs52 w => ?_)
      have e_c2 : zI (f_BR_jumpToRegister_c2 z52 a1 ) = Z := by rw [← e_c1, f_BR_jumpToRegister_c1, if_neg q28, hs52]
      refine lv_goto (tgt := 59) hx hb d_BR_jumpToRegister_55 (by decide) ?_
      exact rt_i hc w d_BR_jumpToRegister_59 (by rw [← e_c2, f_BR_jumpToRegister_c2] <;> rfl)
  · refine lv_bipush (v := 10) hx hb d_BR_jumpToRegister_10 (by decide) ?_
    exact rt_i hc w d_BR_jumpToRegister_12 (by rw [← e0, f_BR_jumpToRegister, if_neg q7] <;> rfl)
-- BR_jump
def f_BR_jump_c2 (z62 : XS × Int32) (a1 : Bool)  : XS × Int32 := (z62.1, z62.2)
def f_BR_jump_c1 (z39 : XS) (a1 : Bool)  : XS × Int32 := if (zb a1) = 0 then ((z39, (-1 : Int32))) else (f_BR_jump_c2 (f_CO_put z39 (31 : Int32) ((x_pc z39) + (8 : Int32))) a1 )
def f_BR_jump (σ : XS) (a1 : Bool) : XS × Int32 := if (zb (x_inds σ)) = 0 then (f_BR_jump_c1 (f_CO_goBehindSlotTo σ ((((x_pc σ) + (4 : Int32)) &&& (-268435456 : Int32)) ||| ((f_CO_jumpField σ) <<< ((2 : Int32) &&& 31)))) a1 ) else ((σ, (10 : Int32)))
theorem d_BR_jump_0 : decode b_BR_jump 0 = .ok (.aload_n 0, 1) := by decide +kernel
theorem d_BR_jump_1 : decode b_BR_jump 1 = .ok (.getfield 7, 3) := by decide +kernel
theorem d_BR_jump_4 : decode b_BR_jump 4 = .ok (.getfield 13, 3) := by decide +kernel
theorem d_BR_jump_7 : decode b_BR_jump 7 = .ok (.ifCond .eq 6, 3) := by decide +kernel
theorem d_BR_jump_10 : decode b_BR_jump 10 = .ok (.bipush 10, 2) := by decide +kernel
theorem d_BR_jump_12 : decode b_BR_jump 12 = .ok (.ireturn, 1) := by decide +kernel
theorem d_BR_jump_13 : decode b_BR_jump 13 = .ok (.aload_n 0, 1) := by decide +kernel
theorem d_BR_jump_14 : decode b_BR_jump 14 = .ok (.getfield 7, 3) := by decide +kernel
theorem d_BR_jump_17 : decode b_BR_jump 17 = .ok (.aload_n 0, 1) := by decide +kernel
theorem d_BR_jump_18 : decode b_BR_jump 18 = .ok (.getfield 7, 3) := by decide +kernel
theorem d_BR_jump_21 : decode b_BR_jump 21 = .ok (.getfield 32, 3) := by decide +kernel
theorem d_BR_jump_24 : decode b_BR_jump 24 = .ok (.iconst 4, 1) := by decide +kernel
theorem d_BR_jump_25 : decode b_BR_jump 25 = .ok (.iadd, 1) := by decide +kernel
theorem d_BR_jump_26 : decode b_BR_jump 26 = .ok (.ldc 40, 2) := by decide +kernel
theorem d_BR_jump_28 : decode b_BR_jump 28 = .ok (.iand, 1) := by decide +kernel
theorem d_BR_jump_29 : decode b_BR_jump 29 = .ok (.aload_n 0, 1) := by decide +kernel
theorem d_BR_jump_30 : decode b_BR_jump 30 = .ok (.getfield 7, 3) := by decide +kernel
theorem d_BR_jump_33 : decode b_BR_jump 33 = .ok (.invokevirtual 41, 3) := by decide +kernel
theorem d_BR_jump_36 : decode b_BR_jump 36 = .ok (.iconst 2, 1) := by decide +kernel
theorem d_BR_jump_37 : decode b_BR_jump 37 = .ok (.ishl, 1) := by decide +kernel
theorem d_BR_jump_38 : decode b_BR_jump 38 = .ok (.ior, 1) := by decide +kernel
theorem d_BR_jump_39 : decode b_BR_jump 39 = .ok (.invokevirtual 25, 3) := by decide +kernel
theorem d_BR_jump_42 : decode b_BR_jump 42 = .ok (.iload_n 1, 1) := by decide +kernel
theorem d_BR_jump_43 : decode b_BR_jump 43 = .ok (.ifCond .eq 25, 3) := by decide +kernel
theorem d_BR_jump_46 : decode b_BR_jump 46 = .ok (.aload_n 0, 1) := by decide +kernel
theorem d_BR_jump_47 : decode b_BR_jump 47 = .ok (.getfield 7, 3) := by decide +kernel
theorem d_BR_jump_50 : decode b_BR_jump 50 = .ok (.bipush 31, 2) := by decide +kernel
theorem d_BR_jump_52 : decode b_BR_jump 52 = .ok (.aload_n 0, 1) := by decide +kernel
theorem d_BR_jump_53 : decode b_BR_jump 53 = .ok (.getfield 7, 3) := by decide +kernel
theorem d_BR_jump_56 : decode b_BR_jump 56 = .ok (.getfield 32, 3) := by decide +kernel
theorem d_BR_jump_59 : decode b_BR_jump 59 = .ok (.bipush 8, 2) := by decide +kernel
theorem d_BR_jump_61 : decode b_BR_jump 61 = .ok (.iadd, 1) := by decide +kernel
theorem d_BR_jump_62 : decode b_BR_jump 62 = .ok (.invokevirtual 36, 3) := by decide +kernel
theorem d_BR_jump_65 : decode b_BR_jump 65 = .ok (.goto 4, 3) := by decide +kernel
theorem d_BR_jump_68 : decode b_BR_jump 68 = .ok (.iconst (-1), 1) := by decide +kernel
theorem d_BR_jump_69 : decode b_BR_jump 69 = .ok (.ireturn, 1) := by decide +kernel
set_option maxHeartbeats 4000000 in
set_option maxRecDepth 100000 in
theorem c_BR_jump (l : Launch) (E : Ev) (ad : Nat → Nat) (σ : XS) (a1 : Bool) : rC xCl l E (xW E ad) y_BR_jump b_BR_jump 2 (Option.some Jvm.ClassFile.FieldType.int) (rmo 1 22) [.ref (ad 8), .int (zb a1)] σ (zI (f_BR_jump σ a1)) := by
  refine rC.of (by decide) (Nat.le_of_ble_eq_true rfl) ?_
  intro p e s m below meth c A ls hc w hl
  generalize e0 : zI (f_BR_jump σ a1) = Z
  have hc : Cx xCl E A p s m ([.ref (ad 8), .int (zb a1)] : List Value).toArray meth c b_BR_jump 2 (Option.some Jvm.ClassFile.FieldType.int) "PageMachine$Branches" := hc
  have hx := hc.1
  have hb := hc.2.1
  have ho := hc.2.2.2.2.2.1
  have hT := hc.2.2.2.2.2.2.1
  have hl : lv_has ls 2 [(0, .ref (ad 8)), (1, .int (zb a1))] := hl
  refine lv_aload_n hx hb d_BR_jump_0 rfl (lv_at hl 0 rfl) ?_
  refine g_BR_core hc w mw_171 d_BR_jump_1 ?_
  refine g_CO_inDelaySlot hc w mw_118 d_BR_jump_4 ?_
  refine lv_if_eq (tgt := 13) hx hb d_BR_jump_7 (by decide) (fun q7 => ?_) (fun q7 => ?_)
  · refine lv_aload_n hx hb d_BR_jump_13 rfl (lv_at hl 0 rfl) ?_
    refine g_BR_core hc w mw_171 d_BR_jump_14 ?_
    refine lv_aload_n hx hb d_BR_jump_17 rfl (lv_at hl 0 rfl) ?_
    refine g_BR_core hc w mw_171 d_BR_jump_18 ?_
    refine g_CO_pc hc w mw_112 d_BR_jump_21 ?_
    refine lv_iconst (v := 4) hx hb d_BR_jump_24 (by decide) ?_
    refine lv_iadd hx hb d_BR_jump_25 ?_
    refine lv_ldc (v := -268435456) hx hb ho (hT _ mw_675) d_BR_jump_26 ?_
    refine lv_iand hx hb d_BR_jump_28 ?_
    refine lv_aload_n hx hb d_BR_jump_29 rfl (lv_at hl 0 rfl) ?_
    refine g_BR_core hc w mw_171 d_BR_jump_30 ?_
    refine rVI (rest := [.int (((x_pc σ) + (4 : Int32)) &&& (-268435456 : Int32)), .ref (ad 5)]) hc w (c_CO_jumpField l E ad σ) kv_CO_jumpField mw_676 5 rfl rfl ⟨Nat.le_of_ble_eq_true rfl, Nat.le_of_ble_eq_true rfl⟩ hl.1 rfl (Nat.le_of_ble_eq_true rfl) ⟨Nat.zero_le _, Nat.zero_le _⟩ d_BR_jump_33 (fun H locs w => ?_)
    refine lv_iconst (v := 2) hx hb d_BR_jump_36 (by decide) ?_
    refine lv_ishl hx hb d_BR_jump_37 ?_
    refine lv_ior hx hb d_BR_jump_38 ?_
    refine cVV (rest := []) hc w (c_CO_goBehindSlotTo l E ad σ ((((x_pc σ) + (4 : Int32)) &&& (-268435456 : Int32)) ||| ((f_CO_jumpField σ) <<< ((2 : Int32) &&& 31)))) kv_CO_goBehindSlotTo mw_556 5 rfl rfl ⟨Nat.le_of_ble_eq_true rfl, Nat.le_of_ble_eq_true rfl⟩ hl.1 rfl (Nat.le_of_ble_eq_true rfl) ⟨Nat.zero_le _, Nat.zero_le _⟩ d_BR_jump_39 (fun z39 H locs hs39 w => ?_)
    have e_c1 : zI (f_BR_jump_c1 z39 a1 ) = Z := by rw [← e0, f_BR_jump, if_pos q7, hs39]
    refine lv_iload_n hx hb d_BR_jump_42 rfl (lv_at hl 1 rfl) ?_
    refine lv_if_eq (tgt := 68) hx hb d_BR_jump_43 (by decide) (fun q43 => ?_) (fun q43 => ?_)
    · refine lv_iconst (v := -1) hx hb d_BR_jump_68 (by decide) ?_
      exact rt_i hc w d_BR_jump_69 (by rw [← e_c1, f_BR_jump_c1, if_pos q43] <;> rfl)
    · refine lv_aload_n hx hb d_BR_jump_46 rfl (lv_at hl 0 rfl) ?_
      refine g_BR_core hc w mw_171 d_BR_jump_47 ?_
      refine lv_bipush (v := 31) hx hb d_BR_jump_50 (by decide) ?_
      refine lv_aload_n hx hb d_BR_jump_52 rfl (lv_at hl 0 rfl) ?_
      refine g_BR_core hc w mw_171 d_BR_jump_53 ?_
      refine g_CO_pc hc w mw_112 d_BR_jump_56 ?_
      refine lv_bipush (v := 8) hx hb d_BR_jump_59 (by decide) ?_
      refine lv_iadd hx hb d_BR_jump_61 ?_
      refine cVI (rest := []) hc w (c_CO_put l E ad z39 (31 : Int32) ((x_pc z39) + (8 : Int32))) kv_CO_put mw_564 5 rfl rfl ⟨Nat.le_of_ble_eq_true rfl, Nat.le_of_ble_eq_true rfl⟩ hl.1 rfl (Nat.le_of_ble_eq_true rfl) ⟨Nat.zero_le _, Nat.zero_le _⟩ d_BR_jump_62 (fun z62 H locs hs62 w => ?_)
      have e_c2 : zI (f_BR_jump_c2 z62 a1 ) = Z := by rw [← e_c1, f_BR_jump_c1, if_neg q43, hs62]
      refine lv_goto (tgt := 69) hx hb d_BR_jump_65 (by decide) ?_
      exact rt_i hc w d_BR_jump_69 (by rw [← e_c2, f_BR_jump_c2] <;> rfl)
  · refine lv_bipush (v := 10) hx hb d_BR_jump_10 (by decide) ?_
    exact rt_i hc w d_BR_jump_12 (by rw [← e0, f_BR_jump, if_neg q7] <;> rfl)
-- BR_bySign
def f_BR_bySign_c2 (z93 : XS × Int32)   : XS × Int32 := (z93.1, z93.2)
def f_BR_bySign_c1 (z68 : XS)  (v68_1 : Int32) : XS × Int32 := if v68_1 < (16 : Int32) then ((z68, (-1 : Int32))) else (f_BR_bySign_c2 (f_CO_put z68 (31 : Int32) ((x_pc z68) + (8 : Int32)))  )
def f_BR_bySign_68 (σ : XS) (v68_1 : Int32) (w68_1 : Bool) (w68_2 : Bool) : XS × Int32 := f_BR_bySign_c1 (f_BR_branch σ w68_1 w68_2)  v68_1
def f_BR_bySign_57 (σ : XS) (v57_1 : Int32) (w57_1 : Bool) : XS × Int32 := if (v57_1 &&& (2 : Int32)) = 0 then (f_BR_bySign_68 σ v57_1 w57_1 false) else (f_BR_bySign_68 σ v57_1 w57_1 true)
def f_BR_bySign_36 (σ : XS) (v36_1 : Int32) (w36_0 : Bool) : XS × Int32 := if (v36_1 &&& (1 : Int32)) = 0 then (f_BR_bySign_57 σ v36_1 w36_0) else (if (zb w36_0) = 0 then (f_BR_bySign_57 σ v36_1 true) else (f_BR_bySign_57 σ v36_1 false))
def f_BR_bySign (σ : XS) : XS × Int32 := if (zb (x_inds σ)) = 0 then (if 0 ≤ (f_CO_s σ) then (f_BR_bySign_36 σ (f_CO_rt σ) false) else (f_BR_bySign_36 σ (f_CO_rt σ) true)) else ((σ, (10 : Int32)))
theorem d_BR_bySign_0 : decode b_BR_bySign 0 = .ok (.aload_n 0, 1) := by decide +kernel
theorem d_BR_bySign_1 : decode b_BR_bySign 1 = .ok (.getfield 7, 3) := by decide +kernel
theorem d_BR_bySign_4 : decode b_BR_bySign 4 = .ok (.getfield 13, 3) := by decide +kernel
theorem d_BR_bySign_7 : decode b_BR_bySign 7 = .ok (.ifCond .eq 6, 3) := by decide +kernel
theorem d_BR_bySign_10 : decode b_BR_bySign 10 = .ok (.bipush 10, 2) := by decide +kernel
theorem d_BR_bySign_12 : decode b_BR_bySign 12 = .ok (.ireturn, 1) := by decide +kernel
theorem d_BR_bySign_13 : decode b_BR_bySign 13 = .ok (.aload_n 0, 1) := by decide +kernel
theorem d_BR_bySign_14 : decode b_BR_bySign 14 = .ok (.getfield 7, 3) := by decide +kernel
theorem d_BR_bySign_17 : decode b_BR_bySign 17 = .ok (.invokevirtual 44, 3) := by decide +kernel
theorem d_BR_bySign_20 : decode b_BR_bySign 20 = .ok (.istore_n 1, 1) := by decide +kernel
theorem d_BR_bySign_21 : decode b_BR_bySign 21 = .ok (.aload_n 0, 1) := by decide +kernel
theorem d_BR_bySign_22 : decode b_BR_bySign 22 = .ok (.getfield 7, 3) := by decide +kernel
theorem d_BR_bySign_25 : decode b_BR_bySign 25 = .ok (.invokevirtual 21, 3) := by decide +kernel
theorem d_BR_bySign_28 : decode b_BR_bySign 28 = .ok (.ifCond .ge 7, 3) := by decide +kernel
theorem d_BR_bySign_31 : decode b_BR_bySign 31 = .ok (.iconst 1, 1) := by decide +kernel
theorem d_BR_bySign_32 : decode b_BR_bySign 32 = .ok (.goto 4, 3) := by decide +kernel
theorem d_BR_bySign_35 : decode b_BR_bySign 35 = .ok (.iconst 0, 1) := by decide +kernel
theorem d_BR_bySign_36 : decode b_BR_bySign 36 = .ok (.istore_n 2, 1) := by decide +kernel
theorem d_BR_bySign_37 : decode b_BR_bySign 37 = .ok (.aload_n 0, 1) := by decide +kernel
theorem d_BR_bySign_38 : decode b_BR_bySign 38 = .ok (.iload_n 1, 1) := by decide +kernel
theorem d_BR_bySign_39 : decode b_BR_bySign 39 = .ok (.iconst 1, 1) := by decide +kernel
theorem d_BR_bySign_40 : decode b_BR_bySign 40 = .ok (.iand, 1) := by decide +kernel
theorem d_BR_bySign_41 : decode b_BR_bySign 41 = .ok (.ifCond .ne 7, 3) := by decide +kernel
theorem d_BR_bySign_44 : decode b_BR_bySign 44 = .ok (.iload_n 2, 1) := by decide +kernel
theorem d_BR_bySign_45 : decode b_BR_bySign 45 = .ok (.goto 12, 3) := by decide +kernel
theorem d_BR_bySign_48 : decode b_BR_bySign 48 = .ok (.iload_n 2, 1) := by decide +kernel
theorem d_BR_bySign_49 : decode b_BR_bySign 49 = .ok (.ifCond .ne 7, 3) := by decide +kernel
theorem d_BR_bySign_52 : decode b_BR_bySign 52 = .ok (.iconst 1, 1) := by decide +kernel
theorem d_BR_bySign_53 : decode b_BR_bySign 53 = .ok (.goto 4, 3) := by decide +kernel
theorem d_BR_bySign_56 : decode b_BR_bySign 56 = .ok (.iconst 0, 1) := by decide +kernel
theorem d_BR_bySign_57 : decode b_BR_bySign 57 = .ok (.iload_n 1, 1) := by decide +kernel
theorem d_BR_bySign_58 : decode b_BR_bySign 58 = .ok (.iconst 2, 1) := by decide +kernel
theorem d_BR_bySign_59 : decode b_BR_bySign 59 = .ok (.iand, 1) := by decide +kernel
theorem d_BR_bySign_60 : decode b_BR_bySign 60 = .ok (.ifCond .eq 7, 3) := by decide +kernel
theorem d_BR_bySign_63 : decode b_BR_bySign 63 = .ok (.iconst 1, 1) := by decide +kernel
theorem d_BR_bySign_64 : decode b_BR_bySign 64 = .ok (.goto 4, 3) := by decide +kernel
theorem d_BR_bySign_67 : decode b_BR_bySign 67 = .ok (.iconst 0, 1) := by decide +kernel
theorem d_BR_bySign_68 : decode b_BR_bySign 68 = .ok (.invokevirtual 47, 3) := by decide +kernel
theorem d_BR_bySign_71 : decode b_BR_bySign 71 = .ok (.iload_n 1, 1) := by decide +kernel
theorem d_BR_bySign_72 : decode b_BR_bySign 72 = .ok (.bipush 16, 2) := by decide +kernel
theorem d_BR_bySign_74 : decode b_BR_bySign 74 = .ok (.if_icmp .lt 25, 3) := by decide +kernel
theorem d_BR_bySign_77 : decode b_BR_bySign 77 = .ok (.aload_n 0, 1) := by decide +kernel
theorem d_BR_bySign_78 : decode b_BR_bySign 78 = .ok (.getfield 7, 3) := by decide +kernel
theorem d_BR_bySign_81 : decode b_BR_bySign 81 = .ok (.bipush 31, 2) := by decide +kernel
theorem d_BR_bySign_83 : decode b_BR_bySign 83 = .ok (.aload_n 0, 1) := by decide +kernel
theorem d_BR_bySign_84 : decode b_BR_bySign 84 = .ok (.getfield 7, 3) := by decide +kernel
theorem d_BR_bySign_87 : decode b_BR_bySign 87 = .ok (.getfield 32, 3) := by decide +kernel
theorem d_BR_bySign_90 : decode b_BR_bySign 90 = .ok (.bipush 8, 2) := by decide +kernel
theorem d_BR_bySign_92 : decode b_BR_bySign 92 = .ok (.iadd, 1) := by decide +kernel
theorem d_BR_bySign_93 : decode b_BR_bySign 93 = .ok (.invokevirtual 36, 3) := by decide +kernel
theorem d_BR_bySign_96 : decode b_BR_bySign 96 = .ok (.goto 4, 3) := by decide +kernel
theorem d_BR_bySign_99 : decode b_BR_bySign 99 = .ok (.iconst (-1), 1) := by decide +kernel
theorem d_BR_bySign_100 : decode b_BR_bySign 100 = .ok (.ireturn, 1) := by decide +kernel
set_option maxHeartbeats 4000000 in
set_option maxRecDepth 100000 in
theorem c_BR_bySign (l : Launch) (E : Ev) (ad : Nat → Nat) (σ : XS) : rC xCl l E (xW E ad) y_BR_bySign b_BR_bySign 3 (Option.some Jvm.ClassFile.FieldType.int) (rmo 2 43) [.ref (ad 8)] σ (zI (f_BR_bySign σ)) := by
  refine rC.of (by decide) (Nat.le_of_ble_eq_true rfl) ?_
  intro p e s m below meth c A ls hc w hl
  generalize e0 : zI (f_BR_bySign σ) = Z
  have hc : Cx xCl E A p s m ([.ref (ad 8)] : List Value).toArray meth c b_BR_bySign 3 (Option.some Jvm.ClassFile.FieldType.int) "PageMachine$Branches" := hc
  have hx := hc.1
  have hb := hc.2.1
  have ho := hc.2.2.2.2.2.1
  have hT := hc.2.2.2.2.2.2.1
  have hl : lv_has ls 3 [(0, .ref (ad 8))] := hl
  have J68 : ∀ (v68_1 : Int32) (w68_1 : Bool) (w68_2 : Bool) (H : Heap) (locs : List Loc) (ls : Array Slot), Wd xCl E A s.heap H locs (xW E ad σ) → lv_has ls 3 [(1, .int v68_1), (0, .ref (ad 8))] → zI (f_BR_bySign_68 σ v68_1 w68_1 w68_2) = Z → W p l e (rmo 2 43) s m ([.ref (ad 8)] : List Value).toArray below meth c H locs 0 0 (MQ below (rQ xCl (xW E ad) E A Z) ([.ref (ad 8)] : List Value).toArray s 0 0 A) (F0 m 68 ls [.int (zb w68_2), .int (zb w68_1), .ref (ad 8)]) := by
    intro v68_1 w68_1 w68_2 H locs ls w hl e68
    refine cVV (rest := []) hc w (c_BR_branch l E ad σ w68_1 w68_2) kv_BR_branch mw_653 8 rfl rfl ⟨Nat.le_of_ble_eq_true rfl, Nat.le_of_ble_eq_true rfl⟩ hl.1 rfl (Nat.le_of_ble_eq_true rfl) ⟨Nat.zero_le _, Nat.zero_le _⟩ d_BR_bySign_68 (fun z68 H locs hs68 w => ?_)
    have e_c1 : zI (f_BR_bySign_c1 z68  v68_1) = Z := by rw [← e68, f_BR_bySign_68, hs68]
    refine lv_iload_n hx hb d_BR_bySign_71 rfl (lv_at hl 0 rfl) ?_
    refine lv_bipush (v := 16) hx hb d_BR_bySign_72 (by decide) ?_
    refine lv_icmp_lt (tgt := 99) hx hb d_BR_bySign_74 (by decide) (fun q74 => ?_) (fun q74 => ?_)
    · refine lv_iconst (v := -1) hx hb d_BR_bySign_99 (by decide) ?_
      exact rt_i hc w d_BR_bySign_100 (by rw [← e_c1, f_BR_bySign_c1, if_pos q74] <;> rfl)
    · refine lv_aload_n hx hb d_BR_bySign_77 rfl (lv_at hl 1 rfl) ?_
      refine g_BR_core hc w mw_171 d_BR_bySign_78 ?_
      refine lv_bipush (v := 31) hx hb d_BR_bySign_81 (by decide) ?_
      refine lv_aload_n hx hb d_BR_bySign_83 rfl (lv_at hl 1 rfl) ?_
      refine g_BR_core hc w mw_171 d_BR_bySign_84 ?_
      refine g_CO_pc hc w mw_112 d_BR_bySign_87 ?_
      refine lv_bipush (v := 8) hx hb d_BR_bySign_90 (by decide) ?_
      refine lv_iadd hx hb d_BR_bySign_92 ?_
      refine cVI (rest := []) hc w (c_CO_put l E ad z68 (31 : Int32) ((x_pc z68) + (8 : Int32))) kv_CO_put mw_564 5 rfl rfl ⟨Nat.le_of_ble_eq_true rfl, Nat.le_of_ble_eq_true rfl⟩ hl.1 rfl (Nat.le_of_ble_eq_true rfl) ⟨Nat.zero_le _, Nat.zero_le _⟩ d_BR_bySign_93 (fun z93 H locs hs93 w => ?_)
      have e_c2 : zI (f_BR_bySign_c2 z93  ) = Z := by rw [← e_c1, f_BR_bySign_c1, if_neg q74, hs93]
      refine lv_goto (tgt := 100) hx hb d_BR_bySign_96 (by decide) ?_
      exact rt_i hc w d_BR_bySign_100 (by rw [← e_c2, f_BR_bySign_c2] <;> rfl)
  have J57 : ∀ (v57_1 : Int32) (w57_1 : Bool) (H : Heap) (locs : List Loc) (ls : Array Slot), Wd xCl E A s.heap H locs (xW E ad σ) → lv_has ls 3 [(1, .int v57_1), (0, .ref (ad 8))] → zI (f_BR_bySign_57 σ v57_1 w57_1) = Z → W p l e (rmo 2 43) s m ([.ref (ad 8)] : List Value).toArray below meth c H locs 0 0 (MQ below (rQ xCl (xW E ad) E A Z) ([.ref (ad 8)] : List Value).toArray s 0 0 A) (F0 m 57 ls [.int (zb w57_1), .ref (ad 8)]) := by
    intro v57_1 w57_1 H locs ls w hl e57
    refine lv_iload_n hx hb d_BR_bySign_57 rfl (lv_at hl 0 rfl) ?_
    refine lv_iconst (v := 2) hx hb d_BR_bySign_58 (by decide) ?_
    refine lv_iand hx hb d_BR_bySign_59 ?_
    refine lv_if_eq (tgt := 67) hx hb d_BR_bySign_60 (by decide) (fun q60 => ?_) (fun q60 => ?_)
    · refine lv_iconst (v := 0) hx hb d_BR_bySign_67 (by decide) ?_
      exact J68 v57_1 w57_1 false _ _ _ w (lv_sub hl [0, 1] rfl) (by rw [← e57, f_BR_bySign_57, if_pos q60])
    · refine lv_iconst (v := 1) hx hb d_BR_bySign_63 (by decide) ?_
      refine lv_goto (tgt := 68) hx hb d_BR_bySign_64 (by decide) ?_
      exact J68 v57_1 w57_1 true _ _ _ w (lv_sub hl [0, 1] rfl) (by rw [← e57, f_BR_bySign_57, if_neg q60])
  have J36 : ∀ (v36_1 : Int32) (w36_0 : Bool) (H : Heap) (locs : List Loc) (ls : Array Slot), Wd xCl E A s.heap H locs (xW E ad σ) → lv_has ls 3 [(1, .int v36_1), (0, .ref (ad 8))] → zI (f_BR_bySign_36 σ v36_1 w36_0) = Z → W p l e (rmo 2 43) s m ([.ref (ad 8)] : List Value).toArray below meth c H locs 0 0 (MQ below (rQ xCl (xW E ad) E A Z) ([.ref (ad 8)] : List Value).toArray s 0 0 A) (F0 m 36 ls [.int (zb w36_0)]) := by
    intro v36_1 w36_0 H locs ls w hl e36
    refine lv_istore_n (lv' := [(2, .int (zb w36_0)), (1, .int v36_1), (0, .ref (ad 8))]) hx hb d_BR_bySign_36 rfl hl (by decide) rfl (fun ls hl => ?_)
    refine lv_aload_n hx hb d_BR_bySign_37 rfl (lv_at hl 2 rfl) ?_
    refine lv_iload_n hx hb d_BR_bySign_38 rfl (lv_at hl 1 rfl) ?_
    refine lv_iconst (v := 1) hx hb d_BR_bySign_39 (by decide) ?_
    refine lv_iand hx hb d_BR_bySign_40 ?_
    refine lv_if_ne (tgt := 48) hx hb d_BR_bySign_41 (by decide) (fun q41 => ?_) (fun q41 => ?_)
    · refine lv_iload_n hx hb d_BR_bySign_48 rfl (lv_at hl 0 rfl) ?_
      refine lv_if_ne (tgt := 56) hx hb d_BR_bySign_49 (by decide) (fun q49 => ?_) (fun q49 => ?_)
      · refine lv_iconst (v := 0) hx hb d_BR_bySign_56 (by decide) ?_
        exact J57 v36_1 false _ _ _ w (lv_sub hl [1, 2] rfl) (by rw [← e36, f_BR_bySign_36, if_neg q41, if_neg q49])
      · refine lv_iconst (v := 1) hx hb d_BR_bySign_52 (by decide) ?_
        refine lv_goto (tgt := 57) hx hb d_BR_bySign_53 (by decide) ?_
        exact J57 v36_1 true _ _ _ w (lv_sub hl [1, 2] rfl) (by rw [← e36, f_BR_bySign_36, if_neg q41, if_pos q49])
    · refine lv_iload_n hx hb d_BR_bySign_44 rfl (lv_at hl 0 rfl) ?_
      refine lv_goto (tgt := 57) hx hb d_BR_bySign_45 (by decide) ?_
      exact J57 v36_1 w36_0 _ _ _ w (lv_sub hl [1, 2] rfl) (by rw [← e36, f_BR_bySign_36, if_pos q41])
  refine lv_aload_n hx hb d_BR_bySign_0 rfl (lv_at hl 0 rfl) ?_
  refine g_BR_core hc w mw_171 d_BR_bySign_1 ?_
  refine g_CO_inDelaySlot hc w mw_118 d_BR_bySign_4 ?_
  refine lv_if_eq (tgt := 13) hx hb d_BR_bySign_7 (by decide) (fun q7 => ?_) (fun q7 => ?_)
  · refine lv_aload_n hx hb d_BR_bySign_13 rfl (lv_at hl 0 rfl) ?_
    refine g_BR_core hc w mw_171 d_BR_bySign_14 ?_
    refine rVI (rest := []) hc w (c_CO_rt l E ad σ) kv_CO_rt mw_652 5 rfl rfl ⟨Nat.le_of_ble_eq_true rfl, Nat.le_of_ble_eq_true rfl⟩ hl.1 rfl (Nat.le_of_ble_eq_true rfl) ⟨Nat.zero_le _, Nat.zero_le _⟩ d_BR_bySign_17 (fun H locs w => ?_)
    refine lv_istore_n (lv' := [(1, .int (f_CO_rt σ)), (0, .ref (ad 8))]) hx hb d_BR_bySign_20 rfl hl (by decide) rfl (fun ls hl => ?_)
    refine lv_aload_n hx hb d_BR_bySign_21 rfl (lv_at hl 1 rfl) ?_
    refine g_BR_core hc w mw_171 d_BR_bySign_22 ?_
    refine rVI (rest := []) hc w (c_CO_s l E ad σ) kv_CO_s mw_552 5 rfl rfl ⟨Nat.le_of_ble_eq_true rfl, Nat.le_of_ble_eq_true rfl⟩ hl.1 rfl (Nat.le_of_ble_eq_true rfl) ⟨Nat.zero_le _, Nat.zero_le _⟩ d_BR_bySign_25 (fun H locs w => ?_)
    refine lv_if_ge (tgt := 35) hx hb d_BR_bySign_28 (by decide) (fun q28 => ?_) (fun q28 => ?_)
    · refine lv_iconst (v := 0) hx hb d_BR_bySign_35 (by decide) ?_
      exact J36 (f_CO_rt σ) false _ _ _ w (lv_sub hl [0, 1] rfl) (by rw [← e0, f_BR_bySign, if_pos q7, if_pos q28])
    · refine lv_iconst (v := 1) hx hb d_BR_bySign_31 (by decide) ?_
      refine lv_goto (tgt := 36) hx hb d_BR_bySign_32 (by decide) ?_
      exact J36 (f_CO_rt σ) true _ _ _ w (lv_sub hl [0, 1] rfl) (by rw [← e0, f_BR_bySign, if_pos q7, if_neg q28])
  · refine lv_bipush (v := 10) hx hb d_BR_bySign_10 (by decide) ?_
    exact rt_i hc w d_BR_bySign_12 (by rw [← e0, f_BR_bySign, if_neg q7] <;> rfl)
-- BR_byComparison
def f_BR_byComparison_c1 (z57 : XS)   : XS × Int32 := (z57, (-1 : Int32))
def f_BR_byComparison_57 (σ : XS) (w57_1 : Bool) (w57_2 : Bool) : XS × Int32 := f_BR_byComparison_c1 (f_BR_branch σ w57_1 w57_2)  
def f_BR_byComparison (σ : XS) : XS × Int32 := if (zb (x_inds σ)) = 0 then (if (f_CO_op σ) < (20 : Int32) then (f_BR_byComparison_57 σ (f_BR_holds σ ((f_CO_op σ) &&& (3 : Int32)) (f_CO_s σ) (f_CO_t σ)) false) else (f_BR_byComparison_57 σ (f_BR_holds σ ((f_CO_op σ) &&& (3 : Int32)) (f_CO_s σ) (f_CO_t σ)) true)) else ((σ, (10 : Int32)))
theorem d_BR_byComparison_0 : decode b_BR_byComparison 0 = .ok (.aload_n 0, 1) := by decide +kernel
theorem d_BR_byComparison_1 : decode b_BR_byComparison 1 = .ok (.getfield 7, 3) := by decide +kernel
theorem d_BR_byComparison_4 : decode b_BR_byComparison 4 = .ok (.getfield 13, 3) := by decide +kernel
theorem d_BR_byComparison_7 : decode b_BR_byComparison 7 = .ok (.ifCond .eq 6, 3) := by decide +kernel
theorem d_BR_byComparison_10 : decode b_BR_byComparison 10 = .ok (.bipush 10, 2) := by decide +kernel
theorem d_BR_byComparison_12 : decode b_BR_byComparison 12 = .ok (.ireturn, 1) := by decide +kernel
theorem d_BR_byComparison_13 : decode b_BR_byComparison 13 = .ok (.aload_n 0, 1) := by decide +kernel
theorem d_BR_byComparison_14 : decode b_BR_byComparison 14 = .ok (.aload_n 0, 1) := by decide +kernel
theorem d_BR_byComparison_15 : decode b_BR_byComparison 15 = .ok (.getfield 7, 3) := by decide +kernel
theorem d_BR_byComparison_18 : decode b_BR_byComparison 18 = .ok (.invokevirtual 51, 3) := by decide +kernel
theorem d_BR_byComparison_21 : decode b_BR_byComparison 21 = .ok (.iconst 3, 1) := by decide +kernel
theorem d_BR_byComparison_22 : decode b_BR_byComparison 22 = .ok (.iand, 1) := by decide +kernel
theorem d_BR_byComparison_23 : decode b_BR_byComparison 23 = .ok (.aload_n 0, 1) := by decide +kernel
theorem d_BR_byComparison_24 : decode b_BR_byComparison 24 = .ok (.getfield 7, 3) := by decide +kernel
theorem d_BR_byComparison_27 : decode b_BR_byComparison 27 = .ok (.invokevirtual 21, 3) := by decide +kernel
theorem d_BR_byComparison_30 : decode b_BR_byComparison 30 = .ok (.aload_n 0, 1) := by decide +kernel
theorem d_BR_byComparison_31 : decode b_BR_byComparison 31 = .ok (.getfield 7, 3) := by decide +kernel
theorem d_BR_byComparison_34 : decode b_BR_byComparison 34 = .ok (.invokevirtual 54, 3) := by decide +kernel
theorem d_BR_byComparison_37 : decode b_BR_byComparison 37 = .ok (.invokestatic 57, 3) := by decide +kernel
theorem d_BR_byComparison_40 : decode b_BR_byComparison 40 = .ok (.aload_n 0, 1) := by decide +kernel
theorem d_BR_byComparison_41 : decode b_BR_byComparison 41 = .ok (.getfield 7, 3) := by decide +kernel
theorem d_BR_byComparison_44 : decode b_BR_byComparison 44 = .ok (.invokevirtual 51, 3) := by decide +kernel
theorem d_BR_byComparison_47 : decode b_BR_byComparison 47 = .ok (.bipush 20, 2) := by decide +kernel
theorem d_BR_byComparison_49 : decode b_BR_byComparison 49 = .ok (.if_icmp .lt 7, 3) := by decide +kernel
theorem d_BR_byComparison_52 : decode b_BR_byComparison 52 = .ok (.iconst 1, 1) := by decide +kernel
theorem d_BR_byComparison_53 : decode b_BR_byComparison 53 = .ok (.goto 4, 3) := by decide +kernel
theorem d_BR_byComparison_56 : decode b_BR_byComparison 56 = .ok (.iconst 0, 1) := by decide +kernel
theorem d_BR_byComparison_57 : decode b_BR_byComparison 57 = .ok (.invokevirtual 47, 3) := by decide +kernel
theorem d_BR_byComparison_60 : decode b_BR_byComparison 60 = .ok (.iconst (-1), 1) := by decide +kernel
theorem d_BR_byComparison_61 : decode b_BR_byComparison 61 = .ok (.ireturn, 1) := by decide +kernel
set_option maxHeartbeats 4000000 in
set_option maxRecDepth 100000 in
theorem c_BR_byComparison (l : Launch) (E : Ev) (ad : Nat → Nat) (σ : XS) : rC xCl l E (xW E ad) y_BR_byComparison b_BR_byComparison 1 (Option.some Jvm.ClassFile.FieldType.int) (rmo 2 43) [.ref (ad 8)] σ (zI (f_BR_byComparison σ)) := by
  refine rC.of (by decide) (Nat.le_of_ble_eq_true rfl) ?_
  intro p e s m below meth c A ls hc w hl
  generalize e0 : zI (f_BR_byComparison σ) = Z
  have hc : Cx xCl E A p s m ([.ref (ad 8)] : List Value).toArray meth c b_BR_byComparison 1 (Option.some Jvm.ClassFile.FieldType.int) "PageMachine$Branches" := hc
  have hx := hc.1
  have hb := hc.2.1
  have ho := hc.2.2.2.2.2.1
  have hT := hc.2.2.2.2.2.2.1
  have hl : lv_has ls 1 [(0, .ref (ad 8))] := hl
  have J57 : ∀ (w57_1 : Bool) (w57_2 : Bool) (H : Heap) (locs : List Loc) (ls : Array Slot), Wd xCl E A s.heap H locs (xW E ad σ) → lv_has ls 1 [] → zI (f_BR_byComparison_57 σ w57_1 w57_2) = Z → W p l e (rmo 2 43) s m ([.ref (ad 8)] : List Value).toArray below meth c H locs 0 0 (MQ below (rQ xCl (xW E ad) E A Z) ([.ref (ad 8)] : List Value).toArray s 0 0 A) (F0 m 57 ls [.int (zb w57_2), .int (zb w57_1), .ref (ad 8)]) := by
    intro w57_1 w57_2 H locs ls w hl e57
    refine cVV (rest := []) hc w (c_BR_branch l E ad σ w57_1 w57_2) kv_BR_branch mw_653 8 rfl rfl ⟨Nat.le_of_ble_eq_true rfl, Nat.le_of_ble_eq_true rfl⟩ hl.1 rfl (Nat.le_of_ble_eq_true rfl) ⟨Nat.zero_le _, Nat.zero_le _⟩ d_BR_byComparison_57 (fun z57 H locs hs57 w => ?_)
    have e_c1 : zI (f_BR_byComparison_c1 z57  ) = Z := by rw [← e57, f_BR_byComparison_57, hs57]
    refine lv_iconst (v := -1) hx hb d_BR_byComparison_60 (by decide) ?_
    exact rt_i hc w d_BR_byComparison_61 (by rw [← e_c1, f_BR_byComparison_c1] <;> rfl)
  refine lv_aload_n hx hb d_BR_byComparison_0 rfl (lv_at hl 0 rfl) ?_
  refine g_BR_core hc w mw_171 d_BR_byComparison_1 ?_
  refine g_CO_inDelaySlot hc w mw_118 d_BR_byComparison_4 ?_
  refine lv_if_eq (tgt := 13) hx hb d_BR_byComparison_7 (by decide) (fun q7 => ?_) (fun q7 => ?_)
  · refine lv_aload_n hx hb d_BR_byComparison_13 rfl (lv_at hl 0 rfl) ?_
    refine lv_aload_n hx hb d_BR_byComparison_14 rfl (lv_at hl 0 rfl) ?_
    refine g_BR_core hc w mw_171 d_BR_byComparison_15 ?_
    refine rVI (rest := [.ref (ad 8)]) hc w (c_CO_op l E ad σ) kv_CO_op mw_685 5 rfl rfl ⟨Nat.le_of_ble_eq_true rfl, Nat.le_of_ble_eq_true rfl⟩ hl.1 rfl (Nat.le_of_ble_eq_true rfl) ⟨Nat.zero_le _, Nat.zero_le _⟩ d_BR_byComparison_18 (fun H locs w => ?_)
    refine lv_iconst (v := 3) hx hb d_BR_byComparison_21 (by decide) ?_
    refine lv_iand hx hb d_BR_byComparison_22 ?_
    refine lv_aload_n hx hb d_BR_byComparison_23 rfl (lv_at hl 0 rfl) ?_
    refine g_BR_core hc w mw_171 d_BR_byComparison_24 ?_
    refine rVI (rest := [.int ((f_CO_op σ) &&& (3 : Int32)), .ref (ad 8)]) hc w (c_CO_s l E ad σ) kv_CO_s mw_552 5 rfl rfl ⟨Nat.le_of_ble_eq_true rfl, Nat.le_of_ble_eq_true rfl⟩ hl.1 rfl (Nat.le_of_ble_eq_true rfl) ⟨Nat.zero_le _, Nat.zero_le _⟩ d_BR_byComparison_27 (fun H locs w => ?_)
    refine lv_aload_n hx hb d_BR_byComparison_30 rfl (lv_at hl 0 rfl) ?_
    refine g_BR_core hc w mw_171 d_BR_byComparison_31 ?_
    refine rVI (rest := [.int (f_CO_s σ), .int ((f_CO_op σ) &&& (3 : Int32)), .ref (ad 8)]) hc w (c_CO_t l E ad σ) kv_CO_t mw_686 5 rfl rfl ⟨Nat.le_of_ble_eq_true rfl, Nat.le_of_ble_eq_true rfl⟩ hl.1 rfl (Nat.le_of_ble_eq_true rfl) ⟨Nat.zero_le _, Nat.zero_le _⟩ d_BR_byComparison_34 (fun H locs w => ?_)
    refine rSZ (rest := [.ref (ad 8)]) hc w (c_BR_holds l E ad σ ((f_CO_op σ) &&& (3 : Int32)) (f_CO_s σ) (f_CO_t σ)) ks_BR_holds mw_687 ⟨Nat.le_of_ble_eq_true rfl, Nat.le_of_ble_eq_true rfl⟩ hl.1 rfl (Nat.le_of_ble_eq_true rfl) ⟨Nat.zero_le _, Nat.zero_le _⟩ d_BR_byComparison_37 (fun H locs w => ?_)
    refine lv_aload_n hx hb d_BR_byComparison_40 rfl (lv_at hl 0 rfl) ?_
    refine g_BR_core hc w mw_171 d_BR_byComparison_41 ?_
    refine rVI (rest := [.int (zb (f_BR_holds σ ((f_CO_op σ) &&& (3 : Int32)) (f_CO_s σ) (f_CO_t σ))), .ref (ad 8)]) hc w (c_CO_op l E ad σ) kv_CO_op mw_685 5 rfl rfl ⟨Nat.le_of_ble_eq_true rfl, Nat.le_of_ble_eq_true rfl⟩ hl.1 rfl (Nat.le_of_ble_eq_true rfl) ⟨Nat.zero_le _, Nat.zero_le _⟩ d_BR_byComparison_44 (fun H locs w => ?_)
    refine lv_bipush (v := 20) hx hb d_BR_byComparison_47 (by decide) ?_
    refine lv_icmp_lt (tgt := 56) hx hb d_BR_byComparison_49 (by decide) (fun q49 => ?_) (fun q49 => ?_)
    · refine lv_iconst (v := 0) hx hb d_BR_byComparison_56 (by decide) ?_
      exact J57 (f_BR_holds σ ((f_CO_op σ) &&& (3 : Int32)) (f_CO_s σ) (f_CO_t σ)) false _ _ _ w (lv_sub hl [] rfl) (by rw [← e0, f_BR_byComparison, if_pos q7, if_pos q49])
    · refine lv_iconst (v := 1) hx hb d_BR_byComparison_52 (by decide) ?_
      refine lv_goto (tgt := 57) hx hb d_BR_byComparison_53 (by decide) ?_
      exact J57 (f_BR_holds σ ((f_CO_op σ) &&& (3 : Int32)) (f_CO_s σ) (f_CO_t σ)) true _ _ _ w (lv_sub hl [] rfl) (by rw [← e0, f_BR_byComparison, if_pos q7, if_neg q49])
  · refine lv_bipush (v := 10) hx hb d_BR_byComparison_10 (by decide) ?_
    exact rt_i hc w d_BR_byComparison_12 (by rw [← e0, f_BR_byComparison, if_neg q7] <;> rfl)
