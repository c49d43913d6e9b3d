-- PM_checkWordAddress
def f_PM_checkWordAddress (σ : XS) (a1 : Int32) : (XS) ⊕ String := if (a1 &&& (3 : Int32)) = 0 then (if (zb (f_ME_has σ (Int32.toInt64 a1))) = 0 then (.inr "java/lang/IndexOutOfBoundsException") else (.inl σ)) else (.inr "java/lang/IllegalArgumentException")
theorem d_PM_checkWordAddress_0 : decode b_PM_checkWordAddress 0 = .ok (.iload_n 1, 1) := by decide +kernel
theorem d_PM_checkWordAddress_1 : decode b_PM_checkWordAddress 1 = .ok (.iconst 3, 1) := by decide +kernel
theorem d_PM_checkWordAddress_2 : decode b_PM_checkWordAddress 2 = .ok (.iand, 1) := by decide +kernel
theorem d_PM_checkWordAddress_3 : decode b_PM_checkWordAddress 3 = .ok (.ifCond .eq 13, 3) := by decide +kernel
theorem d_PM_checkWordAddress_6 : decode b_PM_checkWordAddress 6 = .ok (.new 107, 3) := by decide +kernel
theorem d_PM_checkWordAddress_9 : decode b_PM_checkWordAddress 9 = .ok (.dup, 1) := by decide +kernel
theorem d_PM_checkWordAddress_10 : decode b_PM_checkWordAddress 10 = .ok (.ldc 169, 2) := by decide +kernel
theorem d_PM_checkWordAddress_12 : decode b_PM_checkWordAddress 12 = .ok (.invokespecial 111, 3) := by decide +kernel
theorem d_PM_checkWordAddress_15 : decode b_PM_checkWordAddress 15 = .ok (.athrow, 1) := by decide +kernel
theorem d_PM_checkWordAddress_16 : decode b_PM_checkWordAddress 16 = .ok (.aload_n 0, 1) := by decide +kernel
theorem d_PM_checkWordAddress_17 : decode b_PM_checkWordAddress 17 = .ok (.getfield 10, 3) := by decide +kernel
theorem d_PM_checkWordAddress_20 : decode b_PM_checkWordAddress 20 = .ok (.iload_n 1, 1) := by decide +kernel
theorem d_PM_checkWordAddress_21 : decode b_PM_checkWordAddress 21 = .ok (.i2l, 1) := by decide +kernel
theorem d_PM_checkWordAddress_22 : decode b_PM_checkWordAddress 22 = .ok (.invokevirtual 171, 3) := by decide +kernel
theorem d_PM_checkWordAddress_25 : decode b_PM_checkWordAddress 25 = .ok (.ifCond .ne 13, 3) := by decide +kernel
theorem d_PM_checkWordAddress_28 : decode b_PM_checkWordAddress 28 = .ok (.new 96, 3) := by decide +kernel
theorem d_PM_checkWordAddress_31 : decode b_PM_checkWordAddress 31 = .ok (.dup, 1) := by decide +kernel
theorem d_PM_checkWordAddress_32 : decode b_PM_checkWordAddress 32 = .ok (.ldc 175, 2) := by decide +kernel
theorem d_PM_checkWordAddress_34 : decode b_PM_checkWordAddress 34 = .ok (.invokespecial 100, 3) := by decide +kernel
theorem d_PM_checkWordAddress_37 : decode b_PM_checkWordAddress 37 = .ok (.athrow, 1) := by decide +kernel
theorem d_PM_checkWordAddress_38 : decode b_PM_checkWordAddress 38 = .ok (.return_, 1) := by decide +kernel
set_option maxHeartbeats 4000000 in
set_option maxRecDepth 100000 in
theorem c_PM_checkWordAddress (l : Launch) (hfl : l.flags = flags0) (E : Ev) (sa : Nat → Nat) (ad : Nat → Nat) (σ : XS) (a1 : Int32) : xC xCl l E sa xstrs (xW E ad) y_PM_checkWordAddress b_PM_checkWordAddress 2 (Option.none : Option Jvm.ClassFile.FieldType) (rmx 6 82) [.ref (ad 0), .int a1] σ (oV (f_PM_checkWordAddress σ a1)) := by
  refine xC.of (by decide) (Nat.le_of_ble_eq_true rfl) ?_
  intro p e s m below meth c A ls hc hne hth w hl
  generalize e0 : oV (f_PM_checkWordAddress σ a1) = Z
  have hc : Cx xCl E A p s m ([.ref (ad 0), .int a1] : List Value).toArray meth c b_PM_checkWordAddress 2 (Option.none : Option Jvm.ClassFile.FieldType) "PageMachine" := hc
  have hx := hc.1
  have hb := hc.2.1
  have ho := hc.2.2.2.2.2.1
  have hT := hc.2.2.2.2.2.2.1
  have hl : lv_has ls 2 [(0, .ref (ad 0)), (1, .int a1)] := hl
  refine lv_iload_n hx hb d_PM_checkWordAddress_0 rfl (lv_at hl 1 rfl) ?_
  refine lv_iconst (v := 3) hx hb d_PM_checkWordAddress_1 (by decide) ?_
  refine lv_iand hx hb d_PM_checkWordAddress_2 ?_
  refine lv_if_eq (tgt := 16) hx hb d_PM_checkWordAddress_3 (by decide) (fun q3 => ?_) (fun q3 => ?_)
  · refine lv_aload_n hx hb d_PM_checkWordAddress_16 rfl (lv_at hl 0 rfl) ?_
    refine g_PM_memory hc w mw_238 d_PM_checkWordAddress_17 ?_
    refine lv_iload_n hx hb d_PM_checkWordAddress_20 rfl (lv_at hl 1 rfl) ?_
    refine lv_i2l hx hb d_PM_checkWordAddress_21 rfl ?_
    refine cV0 (rest := []) hc w (c0_ME_has l E ad σ (Int32.toInt64 a1)) kv_ME_has mw_351 1 rfl rfl ⟨Nat.le_of_ble_eq_true rfl, Nat.le_of_ble_eq_true rfl⟩ hl.1 rfl (Nat.le_of_ble_eq_true rfl) ⟨Nat.le_of_ble_eq_true rfl, Nat.le_of_ble_eq_true rfl⟩ d_PM_checkWordAddress_22 ?_
    refine lv_if_ne (tgt := 38) hx hb d_PM_checkWordAddress_25 (by decide) (fun q25 => ?_) (fun q25 => ?_)
    · exact xt_v hc w (Nat.le_of_ble_eq_true rfl) (Nat.le_of_ble_eq_true rfl) d_PM_checkWordAddress_38 (by rw [← e0, f_PM_checkWordAddress, if_pos q3, if_neg q25] <;> rfl)
    · exact x_throw (strs := xstrs) (by rw [← e0, f_PM_checkWordAddress, if_pos q3, if_pos q25] <;> rfl) hc hfl hne hth w hl.1 (by decide) th_IO mw_356 mw_357 mw_17 (List.mem_of_getElem? (i := 1) rfl) ⟨Nat.le_of_ble_eq_true rfl, Nat.le_of_ble_eq_true rfl⟩ (Nat.le_of_ble_eq_true rfl) (Nat.le_of_ble_eq_true rfl) d_PM_checkWordAddress_28 d_PM_checkWordAddress_31 d_PM_checkWordAddress_32 d_PM_checkWordAddress_34 d_PM_checkWordAddress_37
  · exact x_throw (strs := xstrs) (by rw [← e0, f_PM_checkWordAddress, if_neg q3] <;> rfl) hc hfl hne hth w hl.1 (by decide) th_IA mw_284 mw_285 mw_16 (List.mem_of_getElem? (i := 0) rfl) ⟨Nat.le_of_ble_eq_true rfl, Nat.le_of_ble_eq_true rfl⟩ (Nat.le_of_ble_eq_true rfl) (Nat.le_of_ble_eq_true rfl) d_PM_checkWordAddress_6 d_PM_checkWordAddress_9 d_PM_checkWordAddress_10 d_PM_checkWordAddress_12 d_PM_checkWordAddress_15
-- PM_checkRegister
def f_PM_checkRegister_34 (σ : XS) (a1 : Int32) (a2 : Int32) (w34_0 : Bool) : (XS) ⊕ String := if (zb w34_0) = 0 then (.inr "java/lang/IndexOutOfBoundsException") else (.inl σ)
def f_PM_checkRegister_33 (σ : XS) (a1 : Int32) (a2 : Int32) : (XS) ⊕ String := f_PM_checkRegister_34 σ a1 a2 false
def f_PM_checkRegister_29 (σ : XS) (a1 : Int32) (a2 : Int32) : (XS) ⊕ String := f_PM_checkRegister_34 σ a1 a2 true
def f_PM_checkRegister_14 (σ : XS) (a1 : Int32) (a2 : Int32) : (XS) ⊕ String := if a1 = (1 : Int32) then (if a2 < 0 then (f_PM_checkRegister_33 σ a1 a2) else (if (32 : Int32) ≤ a2 then (f_PM_checkRegister_33 σ a1 a2) else (f_PM_checkRegister_29 σ a1 a2))) else (f_PM_checkRegister_33 σ a1 a2)
def f_PM_checkRegister (σ : XS) (a1 : Int32) (a2 : Int32) : (XS) ⊕ String := if a1 = 0 then (if a2 < 0 then (f_PM_checkRegister_14 σ a1 a2) else (if a2 ≤ (34 : Int32) then (f_PM_checkRegister_29 σ a1 a2) else (f_PM_checkRegister_14 σ a1 a2))) else (f_PM_checkRegister_14 σ a1 a2)
theorem d_PM_checkRegister_0 : decode b_PM_checkRegister 0 = .ok (.iload_n 0, 1) := by decide +kernel
theorem d_PM_checkRegister_1 : decode b_PM_checkRegister 1 = .ok (.ifCond .ne 13, 3) := by decide +kernel
theorem d_PM_checkRegister_4 : decode b_PM_checkRegister 4 = .ok (.iload_n 1, 1) := by decide +kernel
theorem d_PM_checkRegister_5 : decode b_PM_checkRegister 5 = .ok (.ifCond .lt 9, 3) := by decide +kernel
theorem d_PM_checkRegister_8 : decode b_PM_checkRegister 8 = .ok (.iload_n 1, 1) := by decide +kernel
theorem d_PM_checkRegister_9 : decode b_PM_checkRegister 9 = .ok (.bipush 34, 2) := by decide +kernel
theorem d_PM_checkRegister_11 : decode b_PM_checkRegister 11 = .ok (.if_icmp .le 18, 3) := by decide +kernel
theorem d_PM_checkRegister_14 : decode b_PM_checkRegister 14 = .ok (.iload_n 0, 1) := by decide +kernel
theorem d_PM_checkRegister_15 : decode b_PM_checkRegister 15 = .ok (.iconst 1, 1) := by decide +kernel
theorem d_PM_checkRegister_16 : decode b_PM_checkRegister 16 = .ok (.if_icmp .ne 17, 3) := by decide +kernel
theorem d_PM_checkRegister_19 : decode b_PM_checkRegister 19 = .ok (.iload_n 1, 1) := by decide +kernel
theorem d_PM_checkRegister_20 : decode b_PM_checkRegister 20 = .ok (.ifCond .lt 13, 3) := by decide +kernel
theorem d_PM_checkRegister_23 : decode b_PM_checkRegister 23 = .ok (.iload_n 1, 1) := by decide +kernel
theorem d_PM_checkRegister_24 : decode b_PM_checkRegister 24 = .ok (.bipush 32, 2) := by decide +kernel
theorem d_PM_checkRegister_26 : decode b_PM_checkRegister 26 = .ok (.if_icmp .ge 7, 3) := by decide +kernel
theorem d_PM_checkRegister_29 : decode b_PM_checkRegister 29 = .ok (.iconst 1, 1) := by decide +kernel
theorem d_PM_checkRegister_30 : decode b_PM_checkRegister 30 = .ok (.goto 4, 3) := by decide +kernel
theorem d_PM_checkRegister_33 : decode b_PM_checkRegister 33 = .ok (.iconst 0, 1) := by decide +kernel
theorem d_PM_checkRegister_34 : decode b_PM_checkRegister 34 = .ok (.istore_n 2, 1) := by decide +kernel
theorem d_PM_checkRegister_35 : decode b_PM_checkRegister 35 = .ok (.iload_n 2, 1) := by decide +kernel
theorem d_PM_checkRegister_36 : decode b_PM_checkRegister 36 = .ok (.ifCond .ne 13, 3) := by decide +kernel
theorem d_PM_checkRegister_39 : decode b_PM_checkRegister 39 = .ok (.new 96, 3) := by decide +kernel
theorem d_PM_checkRegister_42 : decode b_PM_checkRegister 42 = .ok (.dup, 1) := by decide +kernel
theorem d_PM_checkRegister_43 : decode b_PM_checkRegister 43 = .ok (.ldc 177, 2) := by decide +kernel
theorem d_PM_checkRegister_45 : decode b_PM_checkRegister 45 = .ok (.invokespecial 100, 3) := by decide +kernel
theorem d_PM_checkRegister_48 : decode b_PM_checkRegister 48 = .ok (.athrow, 1) := by decide +kernel
theorem d_PM_checkRegister_49 : decode b_PM_checkRegister 49 = .ok (.return_, 1) := by decide +kernel
set_option maxHeartbeats 4000000 in
set_option maxRecDepth 100000 in
theorem c_PM_checkRegister (l : Launch) (hfl : l.flags = flags0) (E : Ev) (sa : Nat → Nat) (ad : Nat → Nat) (σ : XS) (a1 : Int32) (a2 : Int32) : xC xCl l E sa xstrs (xW E ad) y_PM_checkRegister b_PM_checkRegister 3 (Option.none : Option Jvm.ClassFile.FieldType) (rmx 6 82) [.int a1, .int a2] σ (oV (f_PM_checkRegister σ a1 a2)) := by
  refine xC.of (by decide) (Nat.le_of_ble_eq_true rfl) ?_
  intro p e s m below meth c A ls hc hne hth w hl
  generalize e0 : oV (f_PM_checkRegister σ a1 a2) = Z
  have hc : Cx xCl E A p s m ([.int a1, .int a2] : List Value).toArray meth c b_PM_checkRegister 3 (Option.none : Option Jvm.ClassFile.FieldType) "PageMachine" := hc
  have hx := hc.1
  have hb := hc.2.1
  have ho := hc.2.2.2.2.2.1
  have hT := hc.2.2.2.2.2.2.1
  have hl : lv_has ls 3 [(0, .int a1), (1, .int a2)] := hl
  have J34 : ∀ (w34_0 : Bool) (ls : Array Slot), Wd xCl E A s.heap s.heap [] (xW E ad σ) → lv_has ls 3 [] → oV (f_PM_checkRegister_34 σ a1 a2 w34_0) = Z → W p l e (rmx 6 82) s m ([.int a1, .int a2] : List Value).toArray below meth c s.heap [] 0 0 (xE xCl below (xW E ad) E A σ Z s) (F0 m 34 ls [.int (zb w34_0)]) := by
    intro w34_0 ls w hl e34
    refine lv_istore_n (lv' := [(2, .int (zb w34_0))]) hx hb d_PM_checkRegister_34 rfl hl (by decide) rfl (fun ls hl => ?_)
    refine lv_iload_n hx hb d_PM_checkRegister_35 rfl (lv_at hl 0 rfl) ?_
    refine lv_if_ne (tgt := 49) hx hb d_PM_checkRegister_36 (by decide) (fun q36 => ?_) (fun q36 => ?_)
    · exact xt_v hc w (Nat.le_of_ble_eq_true rfl) (Nat.le_of_ble_eq_true rfl) d_PM_checkRegister_49 (by rw [← e34, f_PM_checkRegister_34, if_neg q36] <;> rfl)
    · exact x_throw (strs := xstrs) (by rw [← e34, f_PM_checkRegister_34, if_pos q36] <;> rfl) hc hfl hne hth w hl.1 (by decide) th_IO mw_356 mw_357 mw_17 (List.mem_of_getElem? (i := 2) rfl) ⟨Nat.le_of_ble_eq_true rfl, Nat.le_of_ble_eq_true rfl⟩ (Nat.le_of_ble_eq_true rfl) (Nat.le_of_ble_eq_true rfl) d_PM_checkRegister_39 d_PM_checkRegister_42 d_PM_checkRegister_43 d_PM_checkRegister_45 d_PM_checkRegister_48
  have J33 : ∀ (ls : Array Slot), Wd xCl E A s.heap s.heap [] (xW E ad σ) → lv_has ls 3 [] → oV (f_PM_checkRegister_33 σ a1 a2) = Z → W p l e (rmx 6 82) s m ([.int a1, .int a2] : List Value).toArray below meth c s.heap [] 0 0 (xE xCl below (xW E ad) E A σ Z s) (F0 m 33 ls []) := by
    intro  ls w hl e33
    refine lv_iconst (v := 0) hx hb d_PM_checkRegister_33 (by decide) ?_
    exact J34 false _ w (lv_sub hl [] rfl) (by rw [← e33, f_PM_checkRegister_33])
  have J29 : ∀ (ls : Array Slot), Wd xCl E A s.heap s.heap [] (xW E ad σ) → lv_has ls 3 [] → oV (f_PM_checkRegister_29 σ a1 a2) = Z → W p l e (rmx 6 82) s m ([.int a1, .int a2] : List Value).toArray below meth c s.heap [] 0 0 (xE xCl below (xW E ad) E A σ Z s) (F0 m 29 ls []) := by
    intro  ls w hl e29
    refine lv_iconst (v := 1) hx hb d_PM_checkRegister_29 (by decide) ?_
    refine lv_goto (tgt := 34) hx hb d_PM_checkRegister_30 (by decide) ?_
    exact J34 true _ w (lv_sub hl [] rfl) (by rw [← e29, f_PM_checkRegister_29])
  have J14 : ∀ (ls : Array Slot), Wd xCl E A s.heap s.heap [] (xW E ad σ) → lv_has ls 3 [(0, .int a1), (1, .int a2)] → oV (f_PM_checkRegister_14 σ a1 a2) = Z → W p l e (rmx 6 82) s m ([.int a1, .int a2] : List Value).toArray below meth c s.heap [] 0 0 (xE xCl below (xW E ad) E A σ Z s) (F0 m 14 ls []) := by
    intro  ls w hl e14
    refine lv_iload_n hx hb d_PM_checkRegister_14 rfl (lv_at hl 0 rfl) ?_
    refine lv_iconst (v := 1) hx hb d_PM_checkRegister_15 (by decide) ?_
    refine lv_icmp_ne (tgt := 33) hx hb d_PM_checkRegister_16 (by decide) (fun q16 => ?_) (fun q16 => ?_)
    · exact J33  _ w (lv_sub hl [] rfl) (by rw [← e14, f_PM_checkRegister_14, if_neg q16])
    · refine lv_iload_n hx hb d_PM_checkRegister_19 rfl (lv_at hl 1 rfl) ?_
      refine lv_if_lt (tgt := 33) hx hb d_PM_checkRegister_20 (by decide) (fun q20 => ?_) (fun q20 => ?_)
      · exact J33  _ w (lv_sub hl [] rfl) (by rw [← e14, f_PM_checkRegister_14, if_pos q16, if_pos q20])
      · refine lv_iload_n hx hb d_PM_checkRegister_23 rfl (lv_at hl 1 rfl) ?_
        refine lv_bipush (v := 32) hx hb d_PM_checkRegister_24 (by decide) ?_
        refine lv_icmp_ge (tgt := 33) hx hb d_PM_checkRegister_26 (by decide) (fun q26 => ?_) (fun q26 => ?_)
        · exact J33  _ w (lv_sub hl [] rfl) (by rw [← e14, f_PM_checkRegister_14, if_pos q16, if_neg q20, if_pos q26])
        · exact J29  _ w (lv_sub hl [] rfl) (by rw [← e14, f_PM_checkRegister_14, if_pos q16, if_neg q20, if_neg q26])
  refine lv_iload_n hx hb d_PM_checkRegister_0 rfl (lv_at hl 0 rfl) ?_
  refine lv_if_ne (tgt := 14) hx hb d_PM_checkRegister_1 (by decide) (fun q1 => ?_) (fun q1 => ?_)
  · exact J14  _ w (lv_sub hl [0, 1] rfl) (by rw [← e0, f_PM_checkRegister, if_neg q1])
  · refine lv_iload_n hx hb d_PM_checkRegister_4 rfl (lv_at hl 1 rfl) ?_
    refine lv_if_lt (tgt := 14) hx hb d_PM_checkRegister_5 (by decide) (fun q5 => ?_) (fun q5 => ?_)
    · exact J14  _ w (lv_sub hl [0, 1] rfl) (by rw [← e0, f_PM_checkRegister, if_pos q1, if_pos q5])
    · refine lv_iload_n hx hb d_PM_checkRegister_8 rfl (lv_at hl 1 rfl) ?_
      refine lv_bipush (v := 34) hx hb d_PM_checkRegister_9 (by decide) ?_
      refine lv_icmp_le (tgt := 29) hx hb d_PM_checkRegister_11 (by decide) (fun q11 => ?_) (fun q11 => ?_)
      · exact J29  _ w (lv_sub hl [] rfl) (by rw [← e0, f_PM_checkRegister, if_pos q1, if_neg q5, if_pos q11])
      · exact J14  _ w (lv_sub hl [0, 1] rfl) (by rw [← e0, f_PM_checkRegister, if_pos q1, if_neg q5, if_neg q11])
-- PM_poke
def f_PM_poke_c2 (z20 : XS) (a1 : Int32) (a2 : Int32) (u2_3 : Int32) : (XS × Int32) ⊕ String := .inl (z20, u2_3)
def f_PM_poke_c1 (z2 : XS) (a1 : Int32) (a2 : Int32)  : (XS × Int32) ⊕ String := f_PM_poke_c2 (f_ME_putWord z2 a1 a2) a1 a2 (f_ME_wordAt z2 a1)
def f_PM_poke (σ : XS) (a1 : Int32) (a2 : Int32) : (XS × Int32) ⊕ String := xbind (f_PM_checkWordAddress σ a1) (fun z2 => f_PM_poke_c1 z2 a1 a2 )
theorem d_PM_poke_0 : decode b_PM_poke 0 = .ok (.aload_n 0, 1) := by decide +kernel
theorem d_PM_poke_1 : decode b_PM_poke 1 = .ok (.iload_n 1, 1) := by decide +kernel
theorem d_PM_poke_2 : decode b_PM_poke 2 = .ok (.invokevirtual 55, 3) := by decide +kernel
theorem d_PM_poke_5 : decode b_PM_poke 5 = .ok (.aload_n 0, 1) := by decide +kernel
theorem d_PM_poke_6 : decode b_PM_poke 6 = .ok (.getfield 10, 3) := by decide +kernel
theorem d_PM_poke_9 : decode b_PM_poke 9 = .ok (.iload_n 1, 1) := by decide +kernel
theorem d_PM_poke_10 : decode b_PM_poke 10 = .ok (.invokevirtual 59, 3) := by decide +kernel
theorem d_PM_poke_13 : decode b_PM_poke 13 = .ok (.istore_n 3, 1) := by decide +kernel
theorem d_PM_poke_14 : decode b_PM_poke 14 = .ok (.aload_n 0, 1) := by decide +kernel
theorem d_PM_poke_15 : decode b_PM_poke 15 = .ok (.getfield 10, 3) := by decide +kernel
theorem d_PM_poke_18 : decode b_PM_poke 18 = .ok (.iload_n 1, 1) := by decide +kernel
theorem d_PM_poke_19 : decode b_PM_poke 19 = .ok (.iload_n 2, 1) := by decide +kernel
theorem d_PM_poke_20 : decode b_PM_poke 20 = .ok (.invokevirtual 63, 3) := by decide +kernel
theorem d_PM_poke_23 : decode b_PM_poke 23 = .ok (.iload_n 3, 1) := by decide +kernel
theorem d_PM_poke_24 : decode b_PM_poke 24 = .ok (.ireturn, 1) := by decide +kernel
set_option maxHeartbeats 4000000 in
set_option maxRecDepth 100000 in
theorem c_PM_poke (l : Launch) (hfl : l.flags = flags0) (E : Ev) (sa : Nat → Nat) (ad : Nat → Nat) (σ : XS) (a1 : Int32) (a2 : Int32) : xC xCl l E sa xstrs (xW E ad) y_PM_poke b_PM_poke 4 (Option.some Jvm.ClassFile.FieldType.int) (rmx 7 103) [.ref (ad 0), .int a1, .int a2] σ (oI (f_PM_poke σ a1 a2)) := by
  refine xC.of (by decide) (Nat.le_of_ble_eq_true rfl) ?_
  intro p e s m below meth c A ls hc hne hth w hl
  generalize e0 : oI (f_PM_poke σ a1 a2) = Z
  have hc : Cx xCl E A p s m ([.ref (ad 0), .int a1, .int a2] : List Value).toArray meth c b_PM_poke 4 (Option.some Jvm.ClassFile.FieldType.int) "PageMachine" := hc
  have hx := hc.1
  have hb := hc.2.1
  have ho := hc.2.2.2.2.2.1
  have hT := hc.2.2.2.2.2.2.1
  have hl : lv_has ls 4 [(0, .ref (ad 0)), (1, .int a1), (2, .int a2)] := hl
  refine lv_aload_n hx hb d_PM_poke_0 rfl (lv_at hl 0 rfl) ?_
  refine lv_iload_n hx hb d_PM_poke_1 rfl (lv_at hl 1 rfl) ?_
  refine x_cV (rest := []) hc hth w (c_PM_checkWordAddress l hfl E sa ad σ a1) kv_PM_checkWordAddress mw_280 0 rfl rfl ⟨Nat.le_of_ble_eq_true rfl, Nat.le_of_ble_eq_true rfl⟩ hl.1 rfl (Nat.le_of_ble_eq_true rfl) ⟨Nat.le_of_ble_eq_true rfl, Nat.le_of_ble_eq_true rfl⟩ d_PM_poke_2 (fun X q ce H locs hX w g1 g2 g3 => ?_) (fun Z H locs hZ w => ?_)
  · exact x_prop (by rw [← e0, f_PM_poke, oV_r hX] <;> rfl) hc hne w g1 g2 g3 (Nat.le_of_ble_eq_true rfl) (Nat.le_of_ble_eq_true rfl)
  · obtain ⟨z2, hs2, rfl⟩ := oV_l hZ
    have w : Wd xCl E A s.heap H locs (xW E ad z2) := w
    refine W.eq (g2 := F0 m 5 ls []) rfl ?_
    have e_c1 : oI (f_PM_poke_c1 z2 a1 a2 ) = Z := by rw [← e0, f_PM_poke, hs2]
    refine lv_aload_n hx hb d_PM_poke_5 rfl (lv_at hl 0 rfl) ?_
    refine g_PM_memory hc w mw_238 d_PM_poke_6 ?_
    refine lv_iload_n hx hb d_PM_poke_9 rfl (lv_at hl 1 rfl) ?_
    refine rVI (rest := []) hc w (c_ME_wordAt l E ad z2 a1) kv_ME_wordAt mw_372 1 rfl rfl ⟨Nat.le_of_ble_eq_true rfl, Nat.le_of_ble_eq_true rfl⟩ hl.1 rfl (Nat.le_of_ble_eq_true rfl) ⟨Nat.le_of_ble_eq_true rfl, Nat.le_of_ble_eq_true rfl⟩ d_PM_poke_10 (fun H locs w => ?_)
    refine lv_istore_n (lv' := [(3, .int (f_ME_wordAt z2 a1)), (0, .ref (ad 0)), (1, .int a1), (2, .int a2)]) hx hb d_PM_poke_13 rfl hl (by decide) rfl (fun ls hl => ?_)
    refine lv_aload_n hx hb d_PM_poke_14 rfl (lv_at hl 1 rfl) ?_
    refine g_PM_memory hc w mw_238 d_PM_poke_15 ?_
    refine lv_iload_n hx hb d_PM_poke_18 rfl (lv_at hl 2 rfl) ?_
    refine lv_iload_n hx hb d_PM_poke_19 rfl (lv_at hl 3 rfl) ?_
    refine cVV (rest := []) hc w (c_ME_putWord l E ad z2 a1 a2) kv_ME_putWord mw_263 1 rfl rfl ⟨Nat.le_of_ble_eq_true rfl, Nat.le_of_ble_eq_true rfl⟩ hl.1 rfl (Nat.le_of_ble_eq_true rfl) ⟨Nat.le_of_ble_eq_true rfl, Nat.le_of_ble_eq_true rfl⟩ d_PM_poke_20 (fun z20 H locs hs20 w => ?_)
    generalize hv_u2_3 : f_ME_wordAt z2 a1 = u2_3 at hl ⊢
    have e_c2 : oI (f_PM_poke_c2 z20 a1 a2 u2_3) = Z := by rw [← e_c1, f_PM_poke_c1, hs20, hv_u2_3]
    refine lv_iload_n hx hb d_PM_poke_23 rfl (lv_at hl 0 rfl) ?_
    exact xt_i hc w (Nat.le_of_ble_eq_true rfl) (Nat.le_of_ble_eq_true rfl) d_PM_poke_24 (by rw [← e_c2, f_PM_poke_c2] <;> rfl)
-- PM_peek
def f_PM_peek_c1 (z2 : XS) (a1 : Int32)  : (XS × Int32) ⊕ String := .inl (z2, f_ME_wordAt z2 a1)
def f_PM_peek (σ : XS) (a1 : Int32) : (XS × Int32) ⊕ String := xbind (f_PM_checkWordAddress σ a1) (fun z2 => f_PM_peek_c1 z2 a1 )
theorem d_PM_peek_0 : decode b_PM_peek 0 = .ok (.aload_n 0, 1) := by decide +kernel
theorem d_PM_peek_1 : decode b_PM_peek 1 = .ok (.iload_n 1, 1) := by decide +kernel
theorem d_PM_peek_2 : decode b_PM_peek 2 = .ok (.invokevirtual 55, 3) := by decide +kernel
theorem d_PM_peek_5 : decode b_PM_peek 5 = .ok (.aload_n 0, 1) := by decide +kernel
theorem d_PM_peek_6 : decode b_PM_peek 6 = .ok (.getfield 10, 3) := by decide +kernel
theorem d_PM_peek_9 : decode b_PM_peek 9 = .ok (.iload_n 1, 1) := by decide +kernel
theorem d_PM_peek_10 : decode b_PM_peek 10 = .ok (.invokevirtual 59, 3) := by decide +kernel
theorem d_PM_peek_13 : decode b_PM_peek 13 = .ok (.ireturn, 1) := by decide +kernel
set_option maxHeartbeats 4000000 in
set_option maxRecDepth 100000 in
theorem c_PM_peek (l : Launch) (hfl : l.flags = flags0) (E : Ev) (sa : Nat → Nat) (ad : Nat → Nat) (σ : XS) (a1 : Int32) : xC xCl l E sa xstrs (xW E ad) y_PM_peek b_PM_peek 2 (Option.some Jvm.ClassFile.FieldType.int) (rmx 7 103) [.ref (ad 0), .int a1] σ (oI (f_PM_peek σ a1)) := by
  refine xC.of (by decide) (Nat.le_of_ble_eq_true rfl) ?_
  intro p e s m below meth c A ls hc hne hth w hl
  generalize e0 : oI (f_PM_peek σ a1) = Z
  have hc : Cx xCl E A p s m ([.ref (ad 0), .int a1] : List Value).toArray meth c b_PM_peek 2 (Option.some Jvm.ClassFile.FieldType.int) "PageMachine" := hc
  have hx := hc.1
  have hb := hc.2.1
  have ho := hc.2.2.2.2.2.1
  have hT := hc.2.2.2.2.2.2.1
  have hl : lv_has ls 2 [(0, .ref (ad 0)), (1, .int a1)] := hl
  refine lv_aload_n hx hb d_PM_peek_0 rfl (lv_at hl 0 rfl) ?_
  refine lv_iload_n hx hb d_PM_peek_1 rfl (lv_at hl 1 rfl) ?_
  refine x_cV (rest := []) hc hth w (c_PM_checkWordAddress l hfl E sa ad σ a1) kv_PM_checkWordAddress mw_280 0 rfl rfl ⟨Nat.le_of_ble_eq_true rfl, Nat.le_of_ble_eq_true rfl⟩ hl.1 rfl (Nat.le_of_ble_eq_true rfl) ⟨Nat.le_of_ble_eq_true rfl, Nat.le_of_ble_eq_true rfl⟩ d_PM_peek_2 (fun X q ce H locs hX w g1 g2 g3 => ?_) (fun Z H locs hZ w => ?_)
  · exact x_prop (by rw [← e0, f_PM_peek, oV_r hX] <;> rfl) hc hne w g1 g2 g3 (Nat.le_of_ble_eq_true rfl) (Nat.le_of_ble_eq_true rfl)
  · obtain ⟨z2, hs2, rfl⟩ := oV_l hZ
    have w : Wd xCl E A s.heap H locs (xW E ad z2) := w
    refine W.eq (g2 := F0 m 5 ls []) rfl ?_
    have e_c1 : oI (f_PM_peek_c1 z2 a1 ) = Z := by rw [← e0, f_PM_peek, hs2]
    refine lv_aload_n hx hb d_PM_peek_5 rfl (lv_at hl 0 rfl) ?_
    refine g_PM_memory hc w mw_238 d_PM_peek_6 ?_
    refine lv_iload_n hx hb d_PM_peek_9 rfl (lv_at hl 1 rfl) ?_
    refine rVI (rest := []) hc w (c_ME_wordAt l E ad z2 a1) kv_ME_wordAt mw_372 1 rfl rfl ⟨Nat.le_of_ble_eq_true rfl, Nat.le_of_ble_eq_true rfl⟩ hl.1 rfl (Nat.le_of_ble_eq_true rfl) ⟨Nat.le_of_ble_eq_true rfl, Nat.le_of_ble_eq_true rfl⟩ d_PM_peek_10 (fun H locs w => ?_)
    exact xt_i hc w (Nat.le_of_ble_eq_true rfl) (Nat.le_of_ble_eq_true rfl) d_PM_peek_13 (by rw [← e_c1, f_PM_peek_c1] <;> rfl)
-- PM_set
def f_PM_set_c6 (z16 : XS) (a1 : Int32) (a2 : Int32) (a3 : Int32)  : (XS) ⊕ String := .inl z16
def f_PM_set_c5 (σ33 : XS) (a1 : Int32) (a2 : Int32) (a3 : Int32)  : (XS) ⊕ String := .inl σ33
def f_PM_set_c4 (σ50 : XS) (a1 : Int32) (a2 : Int32) (a3 : Int32)  : (XS) ⊕ String := .inl σ50
def f_PM_set_c3 (z67 : XS) (a1 : Int32) (a2 : Int32) (a3 : Int32)  : (XS) ⊕ String := .inl z67
def f_PM_set_c2 (z79 : XS × Int32) (a1 : Int32) (a2 : Int32) (a3 : Int32)  : (XS) ⊕ String := .inl z79.1
def f_PM_set_c1 (z2 : XS) (a1 : Int32) (a2 : Int32) (a3 : Int32)  : (XS) ⊕ String := if a1 = (1 : Int32) then (f_PM_set_c6 (f_SR_write z2 a2 a3) a1 a2 a3 ) else (if a2 = (32 : Int32) then (f_PM_set_c5 (xs_hi z2 a3) a1 a2 a3 ) else (if a2 = (33 : Int32) then (f_PM_set_c4 (xs_lo z2 a3) a1 a2 a3 ) else (if a2 = (34 : Int32) then (f_PM_set_c3 (f_CO_restartAt z2 a3) a1 a2 a3 ) else (f_PM_set_c2 (f_CO_put z2 a2 a3) a1 a2 a3 ))))
def f_PM_set (σ : XS) (a1 : Int32) (a2 : Int32) (a3 : Int32) : (XS) ⊕ String := xbind (f_PM_checkRegister σ a1 a2) (fun z2 => f_PM_set_c1 z2 a1 a2 a3 )
theorem d_PM_set_0 : decode b_PM_set 0 = .ok (.iload_n 1, 1) := by decide +kernel
theorem d_PM_set_1 : decode b_PM_set 1 = .ok (.iload_n 2, 1) := by decide +kernel
theorem d_PM_set_2 : decode b_PM_set 2 = .ok (.invokestatic 67, 3) := by decide +kernel
theorem d_PM_set_5 : decode b_PM_set 5 = .ok (.iload_n 1, 1) := by decide +kernel
theorem d_PM_set_6 : decode b_PM_set 6 = .ok (.iconst 1, 1) := by decide +kernel
theorem d_PM_set_7 : decode b_PM_set 7 = .ok (.if_icmp .ne 15, 3) := by decide +kernel
theorem d_PM_set_10 : decode b_PM_set 10 = .ok (.aload_n 0, 1) := by decide +kernel
theorem d_PM_set_11 : decode b_PM_set 11 = .ok (.getfield 19, 3) := by decide +kernel
theorem d_PM_set_14 : decode b_PM_set 14 = .ok (.iload_n 2, 1) := by decide +kernel
theorem d_PM_set_15 : decode b_PM_set 15 = .ok (.iload_n 3, 1) := by decide +kernel
theorem d_PM_set_16 : decode b_PM_set 16 = .ok (.invokevirtual 70, 3) := by decide +kernel
theorem d_PM_set_19 : decode b_PM_set 19 = .ok (.goto 64, 3) := by decide +kernel
theorem d_PM_set_22 : decode b_PM_set 22 = .ok (.iload_n 2, 1) := by decide +kernel
theorem d_PM_set_23 : decode b_PM_set 23 = .ok (.bipush 32, 2) := by decide +kernel
theorem d_PM_set_25 : decode b_PM_set 25 = .ok (.if_icmp .ne 14, 3) := by decide +kernel
theorem d_PM_set_28 : decode b_PM_set 28 = .ok (.aload_n 0, 1) := by decide +kernel
theorem d_PM_set_29 : decode b_PM_set 29 = .ok (.getfield 42, 3) := by decide +kernel
theorem d_PM_set_32 : decode b_PM_set 32 = .ok (.iload_n 3, 1) := by decide +kernel
theorem d_PM_set_33 : decode b_PM_set 33 = .ok (.putfield 73, 3) := by decide +kernel
theorem d_PM_set_36 : decode b_PM_set 36 = .ok (.goto 47, 3) := by decide +kernel
theorem d_PM_set_39 : decode b_PM_set 39 = .ok (.iload_n 2, 1) := by decide +kernel
theorem d_PM_set_40 : decode b_PM_set 40 = .ok (.bipush 33, 2) := by decide +kernel
theorem d_PM_set_42 : decode b_PM_set 42 = .ok (.if_icmp .ne 14, 3) := by decide +kernel
theorem d_PM_set_45 : decode b_PM_set 45 = .ok (.aload_n 0, 1) := by decide +kernel
theorem d_PM_set_46 : decode b_PM_set 46 = .ok (.getfield 42, 3) := by decide +kernel
theorem d_PM_set_49 : decode b_PM_set 49 = .ok (.iload_n 3, 1) := by decide +kernel
theorem d_PM_set_50 : decode b_PM_set 50 = .ok (.putfield 77, 3) := by decide +kernel
theorem d_PM_set_53 : decode b_PM_set 53 = .ok (.goto 30, 3) := by decide +kernel
theorem d_PM_set_56 : decode b_PM_set 56 = .ok (.iload_n 2, 1) := by decide +kernel
theorem d_PM_set_57 : decode b_PM_set 57 = .ok (.bipush 34, 2) := by decide +kernel
theorem d_PM_set_59 : decode b_PM_set 59 = .ok (.if_icmp .ne 14, 3) := by decide +kernel
theorem d_PM_set_62 : decode b_PM_set 62 = .ok (.aload_n 0, 1) := by decide +kernel
theorem d_PM_set_63 : decode b_PM_set 63 = .ok (.getfield 42, 3) := by decide +kernel
theorem d_PM_set_66 : decode b_PM_set 66 = .ok (.iload_n 3, 1) := by decide +kernel
theorem d_PM_set_67 : decode b_PM_set 67 = .ok (.invokevirtual 80, 3) := by decide +kernel
theorem d_PM_set_70 : decode b_PM_set 70 = .ok (.goto 13, 3) := by decide +kernel
theorem d_PM_set_73 : decode b_PM_set 73 = .ok (.aload_n 0, 1) := by decide +kernel
theorem d_PM_set_74 : decode b_PM_set 74 = .ok (.getfield 42, 3) := by decide +kernel
theorem d_PM_set_77 : decode b_PM_set 77 = .ok (.iload_n 2, 1) := by decide +kernel
theorem d_PM_set_78 : decode b_PM_set 78 = .ok (.iload_n 3, 1) := by decide +kernel
theorem d_PM_set_79 : decode b_PM_set 79 = .ok (.invokevirtual 83, 3) := by decide +kernel
theorem d_PM_set_82 : decode b_PM_set 82 = .ok (.pop, 1) := by decide +kernel
theorem d_PM_set_83 : decode b_PM_set 83 = .ok (.return_, 1) := by decide +kernel
set_option maxHeartbeats 4000000 in
set_option maxRecDepth 100000 in
theorem c_PM_set (l : Launch) (hfl : l.flags = flags0) (E : Ev) (sa : Nat → Nat) (ad : Nat → Nat) (σ : XS) (a1 : Int32) (a2 : Int32) (a3 : Int32) : xC xCl l E sa xstrs (xW E ad) y_PM_set b_PM_set 4 (Option.none : Option Jvm.ClassFile.FieldType) (rmx 7 104) [.ref (ad 0), .int a1, .int a2, .int a3] σ (oV (f_PM_set σ a1 a2 a3)) := by
  refine xC.of (by decide) (Nat.le_of_ble_eq_true rfl) ?_
  intro p e s m below meth c A ls hc hne hth w hl
  generalize e0 : oV (f_PM_set σ a1 a2 a3) = Z
  have hc : Cx xCl E A p s m ([.ref (ad 0), .int a1, .int a2, .int a3] : List Value).toArray meth c b_PM_set 4 (Option.none : Option Jvm.ClassFile.FieldType) "PageMachine" := hc
  have hx := hc.1
  have hb := hc.2.1
  have ho := hc.2.2.2.2.2.1
  have hT := hc.2.2.2.2.2.2.1
  have hl : lv_has ls 4 [(0, .ref (ad 0)), (1, .int a1), (2, .int a2), (3, .int a3)] := hl
  refine lv_iload_n hx hb d_PM_set_0 rfl (lv_at hl 1 rfl) ?_
  refine lv_iload_n hx hb d_PM_set_1 rfl (lv_at hl 2 rfl) ?_
  refine x_cS (rest := []) hc hth w (c_PM_checkRegister l hfl E sa ad σ a1 a2) ks_PM_checkRegister mw_390 ⟨Nat.le_of_ble_eq_true rfl, Nat.le_of_ble_eq_true rfl⟩ hl.1 rfl (Nat.le_of_ble_eq_true rfl) ⟨Nat.le_of_ble_eq_true rfl, Nat.le_of_ble_eq_true rfl⟩ d_PM_set_2 (fun X q ce H locs hX w g1 g2 g3 => ?_) (fun Z H locs hZ w => ?_)
  · exact x_prop (by rw [← e0, f_PM_set, oV_r hX] <;> rfl) hc hne w g1 g2 g3 (Nat.le_of_ble_eq_true rfl) (Nat.le_of_ble_eq_true rfl)
  · obtain ⟨z2, hs2, rfl⟩ := oV_l hZ
    have w : Wd xCl E A s.heap H locs (xW E ad z2) := w
    refine W.eq (g2 := F0 m 5 ls []) rfl ?_
    have e_c1 : oV (f_PM_set_c1 z2 a1 a2 a3 ) = Z := by rw [← e0, f_PM_set, hs2]
    refine lv_iload_n hx hb d_PM_set_5 rfl (lv_at hl 1 rfl) ?_
    refine lv_iconst (v := 1) hx hb d_PM_set_6 (by decide) ?_
    refine lv_icmp_ne (tgt := 22) hx hb d_PM_set_7 (by decide) (fun q7 => ?_) (fun q7 => ?_)
    · refine lv_iload_n hx hb d_PM_set_22 rfl (lv_at hl 2 rfl) ?_
      refine lv_bipush (v := 32) hx hb d_PM_set_23 (by decide) ?_
      refine lv_icmp_ne (tgt := 39) hx hb d_PM_set_25 (by decide) (fun q25 => ?_) (fun q25 => ?_)
      · refine lv_iload_n hx hb d_PM_set_39 rfl (lv_at hl 2 rfl) ?_
        refine lv_bipush (v := 33) hx hb d_PM_set_40 (by decide) ?_
        refine lv_icmp_ne (tgt := 56) hx hb d_PM_set_42 (by decide) (fun q42 => ?_) (fun q42 => ?_)
        · refine lv_iload_n hx hb d_PM_set_56 rfl (lv_at hl 2 rfl) ?_
          refine lv_bipush (v := 34) hx hb d_PM_set_57 (by decide) ?_
          refine lv_icmp_ne (tgt := 73) hx hb d_PM_set_59 (by decide) (fun q59 => ?_) (fun q59 => ?_)
          · refine lv_aload_n hx hb d_PM_set_73 rfl (lv_at hl 0 rfl) ?_
            refine g_PM_core hc w mw_242 d_PM_set_74 ?_
            refine lv_iload_n hx hb d_PM_set_77 rfl (lv_at hl 2 rfl) ?_
            refine lv_iload_n hx hb d_PM_set_78 rfl (lv_at hl 3 rfl) ?_
            refine cVI (rest := []) hc w (c_CO_put l E ad z2 a2 a3) kv_CO_put mw_404 5 rfl rfl ⟨Nat.le_of_ble_eq_true rfl, Nat.le_of_ble_eq_true rfl⟩ hl.1 rfl (Nat.le_of_ble_eq_true rfl) ⟨Nat.le_of_ble_eq_true rfl, Nat.le_of_ble_eq_true rfl⟩ d_PM_set_79 (fun z79 H locs hs79 w => ?_)
            have e_c2 : oV (f_PM_set_c2 z79 a1 a2 a3 ) = Z := by rw [← e_c1, f_PM_set_c1, if_neg q7, if_neg q25, if_neg q42, if_neg q59, hs79]
            refine lv_pop hx hb d_PM_set_82 rfl ?_
            exact xt_v hc w (Nat.le_of_ble_eq_true rfl) (Nat.le_of_ble_eq_true rfl) d_PM_set_83 (by rw [← e_c2, f_PM_set_c2] <;> rfl)
          · refine lv_aload_n hx hb d_PM_set_62 rfl (lv_at hl 0 rfl) ?_
            refine g_PM_core hc w mw_242 d_PM_set_63 ?_
            refine lv_iload_n hx hb d_PM_set_66 rfl (lv_at hl 3 rfl) ?_
            refine cVV (rest := []) hc w (c_CO_restartAt l E ad z2 a3) kv_CO_restartAt mw_400 5 rfl rfl ⟨Nat.le_of_ble_eq_true rfl, Nat.le_of_ble_eq_true rfl⟩ hl.1 rfl (Nat.le_of_ble_eq_true rfl) ⟨Nat.le_of_ble_eq_true rfl, Nat.le_of_ble_eq_true rfl⟩ d_PM_set_67 (fun z67 H locs hs67 w => ?_)
            have e_c3 : oV (f_PM_set_c3 z67 a1 a2 a3 ) = Z := by rw [← e_c1, f_PM_set_c1, if_neg q7, if_neg q25, if_neg q42, if_pos q59, hs67]
            refine lv_goto (tgt := 83) hx hb d_PM_set_70 (by decide) ?_
            exact xt_v hc w (Nat.le_of_ble_eq_true rfl) (Nat.le_of_ble_eq_true rfl) d_PM_set_83 (by rw [← e_c3, f_PM_set_c3] <;> rfl)
        · refine lv_aload_n hx hb d_PM_set_45 rfl (lv_at hl 0 rfl) ?_
          refine g_PM_core hc w mw_242 d_PM_set_46 ?_
          refine lv_iload_n hx hb d_PM_set_49 rfl (lv_at hl 3 rfl) ?_
          refine p_CO_lo hc w mw_109 d_PM_set_50 (fun σ50 H locs hs50 w => ?_)
          have e_c4 : oV (f_PM_set_c4 σ50 a1 a2 a3 ) = Z := by rw [← e_c1, f_PM_set_c1, if_neg q7, if_neg q25, if_pos q42, hs50]
          refine lv_goto (tgt := 83) hx hb d_PM_set_53 (by decide) ?_
          exact xt_v hc w (Nat.le_of_ble_eq_true rfl) (Nat.le_of_ble_eq_true rfl) d_PM_set_83 (by rw [← e_c4, f_PM_set_c4] <;> rfl)
      · refine lv_aload_n hx hb d_PM_set_28 rfl (lv_at hl 0 rfl) ?_
        refine g_PM_core hc w mw_242 d_PM_set_29 ?_
        refine lv_iload_n hx hb d_PM_set_32 rfl (lv_at hl 3 rfl) ?_
        refine p_CO_hi hc w mw_106 d_PM_set_33 (fun σ33 H locs hs33 w => ?_)
        have e_c5 : oV (f_PM_set_c5 σ33 a1 a2 a3 ) = Z := by rw [← e_c1, f_PM_set_c1, if_neg q7, if_pos q25, hs33]
        refine lv_goto (tgt := 83) hx hb d_PM_set_36 (by decide) ?_
        exact xt_v hc w (Nat.le_of_ble_eq_true rfl) (Nat.le_of_ble_eq_true rfl) d_PM_set_83 (by rw [← e_c5, f_PM_set_c5] <;> rfl)
    · refine lv_aload_n hx hb d_PM_set_10 rfl (lv_at hl 0 rfl) ?_
      refine g_PM_system hc w mw_239 d_PM_set_11 ?_
      refine lv_iload_n hx hb d_PM_set_14 rfl (lv_at hl 2 rfl) ?_
      refine lv_iload_n hx hb d_PM_set_15 rfl (lv_at hl 3 rfl) ?_
      refine cVV (rest := []) hc w (c_SR_write l E ad z2 a2 a3) kv_SR_write mw_394 2 rfl rfl ⟨Nat.le_of_ble_eq_true rfl, Nat.le_of_ble_eq_true rfl⟩ hl.1 rfl (Nat.le_of_ble_eq_true rfl) ⟨Nat.le_of_ble_eq_true rfl, Nat.le_of_ble_eq_true rfl⟩ d_PM_set_16 (fun z16 H locs hs16 w => ?_)
      have e_c6 : oV (f_PM_set_c6 z16 a1 a2 a3 ) = Z := by rw [← e_c1, f_PM_set_c1, if_pos q7, hs16]
      refine lv_goto (tgt := 83) hx hb d_PM_set_19 (by decide) ?_
      exact xt_v hc w (Nat.le_of_ble_eq_true rfl) (Nat.le_of_ble_eq_true rfl) d_PM_set_83 (by rw [← e_c6, f_PM_set_c6] <;> rfl)
-- PM_get
def f_PM_get_c1 (z2 : XS) (a1 : Int32) (a2 : Int32)  : (XS × Int32) ⊕ String := if a1 = (1 : Int32) then (.inl (z2, f_SR_read z2 a2)) else (if a2 = (32 : Int32) then (.inl (z2, x_hi z2)) else (if a2 = (33 : Int32) then (.inl (z2, x_lo z2)) else (if a2 = (34 : Int32) then (.inl (z2, x_pc z2)) else (.inl (z2, f_CO_register z2 a2)))))
def f_PM_get (σ : XS) (a1 : Int32) (a2 : Int32) : (XS × Int32) ⊕ String := xbind (f_PM_checkRegister σ a1 a2) (fun z2 => f_PM_get_c1 z2 a1 a2 )
theorem d_PM_get_0 : decode b_PM_get 0 = .ok (.iload_n 1, 1) := by decide +kernel
theorem d_PM_get_1 : decode b_PM_get 1 = .ok (.iload_n 2, 1) := by decide +kernel
theorem d_PM_get_2 : decode b_PM_get 2 = .ok (.invokestatic 67, 3) := by decide +kernel
theorem d_PM_get_5 : decode b_PM_get 5 = .ok (.iload_n 1, 1) := by decide +kernel
theorem d_PM_get_6 : decode b_PM_get 6 = .ok (.iconst 1, 1) := by decide +kernel
theorem d_PM_get_7 : decode b_PM_get 7 = .ok (.if_icmp .ne 12, 3) := by decide +kernel
theorem d_PM_get_10 : decode b_PM_get 10 = .ok (.aload_n 0, 1) := by decide +kernel
theorem d_PM_get_11 : decode b_PM_get 11 = .ok (.getfield 19, 3) := by decide +kernel
theorem d_PM_get_14 : decode b_PM_get 14 = .ok (.iload_n 2, 1) := by decide +kernel
theorem d_PM_get_15 : decode b_PM_get 15 = .ok (.invokevirtual 87, 3) := by decide +kernel
theorem d_PM_get_18 : decode b_PM_get 18 = .ok (.ireturn, 1) := by decide +kernel
theorem d_PM_get_19 : decode b_PM_get 19 = .ok (.iload_n 2, 1) := by decide +kernel
theorem d_PM_get_20 : decode b_PM_get 20 = .ok (.bipush 32, 2) := by decide +kernel
theorem d_PM_get_22 : decode b_PM_get 22 = .ok (.if_icmp .ne 11, 3) := by decide +kernel
theorem d_PM_get_25 : decode b_PM_get 25 = .ok (.aload_n 0, 1) := by decide +kernel
theorem d_PM_get_26 : decode b_PM_get 26 = .ok (.getfield 42, 3) := by decide +kernel
theorem d_PM_get_29 : decode b_PM_get 29 = .ok (.getfield 73, 3) := by decide +kernel
theorem d_PM_get_32 : decode b_PM_get 32 = .ok (.ireturn, 1) := by decide +kernel
theorem d_PM_get_33 : decode b_PM_get 33 = .ok (.iload_n 2, 1) := by decide +kernel
theorem d_PM_get_34 : decode b_PM_get 34 = .ok (.bipush 33, 2) := by decide +kernel
theorem d_PM_get_36 : decode b_PM_get 36 = .ok (.if_icmp .ne 11, 3) := by decide +kernel
theorem d_PM_get_39 : decode b_PM_get 39 = .ok (.aload_n 0, 1) := by decide +kernel
theorem d_PM_get_40 : decode b_PM_get 40 = .ok (.getfield 42, 3) := by decide +kernel
theorem d_PM_get_43 : decode b_PM_get 43 = .ok (.getfield 77, 3) := by decide +kernel
theorem d_PM_get_46 : decode b_PM_get 46 = .ok (.ireturn, 1) := by decide +kernel
theorem d_PM_get_47 : decode b_PM_get 47 = .ok (.iload_n 2, 1) := by decide +kernel
theorem d_PM_get_48 : decode b_PM_get 48 = .ok (.bipush 34, 2) := by decide +kernel
theorem d_PM_get_50 : decode b_PM_get 50 = .ok (.if_icmp .ne 13, 3) := by decide +kernel
theorem d_PM_get_53 : decode b_PM_get 53 = .ok (.aload_n 0, 1) := by decide +kernel
theorem d_PM_get_54 : decode b_PM_get 54 = .ok (.getfield 42, 3) := by decide +kernel
theorem d_PM_get_57 : decode b_PM_get 57 = .ok (.getfield 90, 3) := by decide +kernel
theorem d_PM_get_60 : decode b_PM_get 60 = .ok (.goto 11, 3) := by decide +kernel
theorem d_PM_get_63 : decode b_PM_get 63 = .ok (.aload_n 0, 1) := by decide +kernel
theorem d_PM_get_64 : decode b_PM_get 64 = .ok (.getfield 42, 3) := by decide +kernel
theorem d_PM_get_67 : decode b_PM_get 67 = .ok (.iload_n 2, 1) := by decide +kernel
theorem d_PM_get_68 : decode b_PM_get 68 = .ok (.invokevirtual 93, 3) := by decide +kernel
theorem d_PM_get_71 : decode b_PM_get 71 = .ok (.ireturn, 1) := by decide +kernel
set_option maxHeartbeats 4000000 in
set_option maxRecDepth 100000 in
theorem c_PM_get (l : Launch) (hfl : l.flags = flags0) (E : Ev) (sa : Nat → Nat) (ad : Nat → Nat) (σ : XS) (a1 : Int32) (a2 : Int32) : xC xCl l E sa xstrs (xW E ad) y_PM_get b_PM_get 3 (Option.some Jvm.ClassFile.FieldType.int) (rmx 7 104) [.ref (ad 0), .int a1, .int a2] σ (oI (f_PM_get σ a1 a2)) := by
  refine xC.of (by decide) (Nat.le_of_ble_eq_true rfl) ?_
  intro p e s m below meth c A ls hc hne hth w hl
  generalize e0 : oI (f_PM_get σ a1 a2) = Z
  have hc : Cx xCl E A p s m ([.ref (ad 0), .int a1, .int a2] : List Value).toArray meth c b_PM_get 3 (Option.some Jvm.ClassFile.FieldType.int) "PageMachine" := hc
  have hx := hc.1
  have hb := hc.2.1
  have ho := hc.2.2.2.2.2.1
  have hT := hc.2.2.2.2.2.2.1
  have hl : lv_has ls 3 [(0, .ref (ad 0)), (1, .int a1), (2, .int a2)] := hl
  refine lv_iload_n hx hb d_PM_get_0 rfl (lv_at hl 1 rfl) ?_
  refine lv_iload_n hx hb d_PM_get_1 rfl (lv_at hl 2 rfl) ?_
  refine x_cS (rest := []) hc hth w (c_PM_checkRegister l hfl E sa ad σ a1 a2) ks_PM_checkRegister mw_390 ⟨Nat.le_of_ble_eq_true rfl, Nat.le_of_ble_eq_true rfl⟩ hl.1 rfl (Nat.le_of_ble_eq_true rfl) ⟨Nat.le_of_ble_eq_true rfl, Nat.le_of_ble_eq_true rfl⟩ d_PM_get_2 (fun X q ce H locs hX w g1 g2 g3 => ?_) (fun Z H locs hZ w => ?_)
  · exact x_prop (by rw [← e0, f_PM_get, oV_r hX] <;> rfl) hc hne w g1 g2 g3 (Nat.le_of_ble_eq_true rfl) (Nat.le_of_ble_eq_true rfl)
  · obtain ⟨z2, hs2, rfl⟩ := oV_l hZ
    have w : Wd xCl E A s.heap H locs (xW E ad z2) := w
    refine W.eq (g2 := F0 m 5 ls []) rfl ?_
    have e_c1 : oI (f_PM_get_c1 z2 a1 a2 ) = Z := by rw [← e0, f_PM_get, hs2]
    refine lv_iload_n hx hb d_PM_get_5 rfl (lv_at hl 1 rfl) ?_
    refine lv_iconst (v := 1) hx hb d_PM_get_6 (by decide) ?_
    refine lv_icmp_ne (tgt := 19) hx hb d_PM_get_7 (by decide) (fun q7 => ?_) (fun q7 => ?_)
    · refine lv_iload_n hx hb d_PM_get_19 rfl (lv_at hl 2 rfl) ?_
      refine lv_bipush (v := 32) hx hb d_PM_get_20 (by decide) ?_
      refine lv_icmp_ne (tgt := 33) hx hb d_PM_get_22 (by decide) (fun q22 => ?_) (fun q22 => ?_)
      · refine lv_iload_n hx hb d_PM_get_33 rfl (lv_at hl 2 rfl) ?_
        refine lv_bipush (v := 33) hx hb d_PM_get_34 (by decide) ?_
        refine lv_icmp_ne (tgt := 47) hx hb d_PM_get_36 (by decide) (fun q36 => ?_) (fun q36 => ?_)
        · refine lv_iload_n hx hb d_PM_get_47 rfl (lv_at hl 2 rfl) ?_
          refine lv_bipush (v := 34) hx hb d_PM_get_48 (by decide) ?_
          refine lv_icmp_ne (tgt := 63) hx hb d_PM_get_50 (by decide) (fun q50 => ?_) (fun q50 => ?_)
          · refine lv_aload_n hx hb d_PM_get_63 rfl (lv_at hl 0 rfl) ?_
            refine g_PM_core hc w mw_242 d_PM_get_64 ?_
            refine lv_iload_n hx hb d_PM_get_67 rfl (lv_at hl 2 rfl) ?_
            refine rVI (rest := []) hc w (c_CO_register l E ad z2 a2) kv_CO_register mw_420 5 rfl rfl ⟨Nat.le_of_ble_eq_true rfl, Nat.le_of_ble_eq_true rfl⟩ hl.1 rfl (Nat.le_of_ble_eq_true rfl) ⟨Nat.le_of_ble_eq_true rfl, Nat.le_of_ble_eq_true rfl⟩ d_PM_get_68 (fun H locs w => ?_)
            exact xt_i hc w (Nat.le_of_ble_eq_true rfl) (Nat.le_of_ble_eq_true rfl) d_PM_get_71 (by rw [← e_c1, f_PM_get_c1, if_neg q7, if_neg q22, if_neg q36, if_neg q50] <;> rfl)
          · refine lv_aload_n hx hb d_PM_get_53 rfl (lv_at hl 0 rfl) ?_
            refine g_PM_core hc w mw_242 d_PM_get_54 ?_
            refine g_CO_pc hc w mw_114 d_PM_get_57 ?_
            refine lv_goto (tgt := 71) hx hb d_PM_get_60 (by decide) ?_
            exact xt_i hc w (Nat.le_of_ble_eq_true rfl) (Nat.le_of_ble_eq_true rfl) d_PM_get_71 (by rw [← e_c1, f_PM_get_c1, if_neg q7, if_neg q22, if_neg q36, if_pos q50] <;> rfl)
        · refine lv_aload_n hx hb d_PM_get_39 rfl (lv_at hl 0 rfl) ?_
          refine g_PM_core hc w mw_242 d_PM_get_40 ?_
          refine g_CO_lo hc w mw_109 d_PM_get_43 ?_
          exact xt_i hc w (Nat.le_of_ble_eq_true rfl) (Nat.le_of_ble_eq_true rfl) d_PM_get_46 (by rw [← e_c1, f_PM_get_c1, if_neg q7, if_neg q22, if_pos q36] <;> rfl)
      · refine lv_aload_n hx hb d_PM_get_25 rfl (lv_at hl 0 rfl) ?_
        refine g_PM_core hc w mw_242 d_PM_get_26 ?_
        refine g_CO_hi hc w mw_106 d_PM_get_29 ?_
        exact xt_i hc w (Nat.le_of_ble_eq_true rfl) (Nat.le_of_ble_eq_true rfl) d_PM_get_32 (by rw [← e_c1, f_PM_get_c1, if_neg q7, if_pos q22] <;> rfl)
    · refine lv_aload_n hx hb d_PM_get_10 rfl (lv_at hl 0 rfl) ?_
      refine g_PM_system hc w mw_239 d_PM_get_11 ?_
      refine lv_iload_n hx hb d_PM_get_14 rfl (lv_at hl 2 rfl) ?_
      refine rVI (rest := []) hc w (c_SR_read l E ad z2 a2) kv_SR_read mw_415 2 rfl rfl ⟨Nat.le_of_ble_eq_true rfl, Nat.le_of_ble_eq_true rfl⟩ hl.1 rfl (Nat.le_of_ble_eq_true rfl) ⟨Nat.le_of_ble_eq_true rfl, Nat.le_of_ble_eq_true rfl⟩ d_PM_get_15 (fun H locs w => ?_)
      exact xt_i hc w (Nat.le_of_ble_eq_true rfl) (Nat.le_of_ble_eq_true rfl) d_PM_get_18 (by rw [← e_c1, f_PM_get_c1, if_pos q7] <;> rfl)
-- PM_line
def f_PM_line_10 (σ : XS) (a1 : Int32) (a2 : Bool) : (XS × Bool) ⊕ String := .inr "java/lang/IndexOutOfBoundsException"
def f_PM_line_c1 (z26 : XS × Bool) (a1 : Int32) (a2 : Bool)  : (XS × Bool) ⊕ String := .inl (z26.1, z26.2)
def f_PM_line (σ : XS) (a1 : Int32) (a2 : Bool) : (XS × Bool) ⊕ String := if a1 < 0 then (f_PM_line_10 σ a1 a2) else (if a1 < (6 : Int32) then (f_PM_line_c1 (f_SR_switchLine σ a1 a2) a1 a2 ) else (f_PM_line_10 σ a1 a2))
theorem d_PM_line_0 : decode b_PM_line 0 = .ok (.iload_n 1, 1) := by decide +kernel
theorem d_PM_line_1 : decode b_PM_line 1 = .ok (.ifCond .lt 9, 3) := by decide +kernel
theorem d_PM_line_4 : decode b_PM_line 4 = .ok (.iload_n 1, 1) := by decide +kernel
theorem d_PM_line_5 : decode b_PM_line 5 = .ok (.bipush 6, 2) := by decide +kernel
theorem d_PM_line_7 : decode b_PM_line 7 = .ok (.if_icmp .lt 13, 3) := by decide +kernel
theorem d_PM_line_10 : decode b_PM_line 10 = .ok (.new 96, 3) := by decide +kernel
theorem d_PM_line_13 : decode b_PM_line 13 = .ok (.dup, 1) := by decide +kernel
theorem d_PM_line_14 : decode b_PM_line 14 = .ok (.ldc 98, 2) := by decide +kernel
theorem d_PM_line_16 : decode b_PM_line 16 = .ok (.invokespecial 100, 3) := by decide +kernel
theorem d_PM_line_19 : decode b_PM_line 19 = .ok (.athrow, 1) := by decide +kernel
theorem d_PM_line_20 : decode b_PM_line 20 = .ok (.aload_n 0, 1) := by decide +kernel
theorem d_PM_line_21 : decode b_PM_line 21 = .ok (.getfield 19, 3) := by decide +kernel
theorem d_PM_line_24 : decode b_PM_line 24 = .ok (.iload_n 1, 1) := by decide +kernel
theorem d_PM_line_25 : decode b_PM_line 25 = .ok (.iload_n 2, 1) := by decide +kernel
theorem d_PM_line_26 : decode b_PM_line 26 = .ok (.invokevirtual 103, 3) := by decide +kernel
theorem d_PM_line_29 : decode b_PM_line 29 = .ok (.ireturn, 1) := by decide +kernel
set_option maxHeartbeats 4000000 in
set_option maxRecDepth 100000 in
theorem c_PM_line (l : Launch) (hfl : l.flags = flags0) (E : Ev) (sa : Nat → Nat) (ad : Nat → Nat) (σ : XS) (a1 : Int32) (a2 : Bool) : xC xCl l E sa xstrs (xW E ad) y_PM_line b_PM_line 3 (Option.some Jvm.ClassFile.FieldType.boolean) (rmx 6 82) [.ref (ad 0), .int a1, .int (zb a2)] σ (oZ (f_PM_line σ a1 a2)) := by
  refine xC.of (by decide) (Nat.le_of_ble_eq_true rfl) ?_
  intro p e s m below meth c A ls hc hne hth w hl
  generalize e0 : oZ (f_PM_line σ a1 a2) = Z
  have hc : Cx xCl E A p s m ([.ref (ad 0), .int a1, .int (zb a2)] : List Value).toArray meth c b_PM_line 3 (Option.some Jvm.ClassFile.FieldType.boolean) "PageMachine" := hc
  have hx := hc.1
  have hb := hc.2.1
  have ho := hc.2.2.2.2.2.1
  have hT := hc.2.2.2.2.2.2.1
  have hl : lv_has ls 3 [(0, .ref (ad 0)), (1, .int a1), (2, .int (zb a2))] := hl
  have J10 : ∀ (ls : Array Slot), Wd xCl E A s.heap s.heap [] (xW E ad σ) → lv_has ls 3 [] → oZ (f_PM_line_10 σ a1 a2) = Z → W p l e (rmx 6 82) s m ([.ref (ad 0), .int a1, .int (zb a2)] : List Value).toArray below meth c s.heap [] 0 0 (xE xCl below (xW E ad) E A σ Z s) (F0 m 10 ls []) := by
    intro  ls w hl e10
    exact x_throw (strs := xstrs) (by rw [← e10, f_PM_line_10] <;> rfl) hc hfl hne hth w hl.1 (by decide) th_IO mw_356 mw_357 mw_17 (List.mem_of_getElem? (i := 3) rfl) ⟨Nat.le_of_ble_eq_true rfl, Nat.le_of_ble_eq_true rfl⟩ (Nat.le_of_ble_eq_true rfl) (Nat.le_of_ble_eq_true rfl) d_PM_line_10 d_PM_line_13 d_PM_line_14 d_PM_line_16 d_PM_line_19
  refine lv_iload_n hx hb d_PM_line_0 rfl (lv_at hl 1 rfl) ?_
  refine lv_if_lt (tgt := 10) hx hb d_PM_line_1 (by decide) (fun q1 => ?_) (fun q1 => ?_)
  · exact J10  _ w (lv_sub hl [] rfl) (by rw [← e0, f_PM_line, if_pos q1])
  · refine lv_iload_n hx hb d_PM_line_4 rfl (lv_at hl 1 rfl) ?_
    refine lv_bipush (v := 6) hx hb d_PM_line_5 (by decide) ?_
    refine lv_icmp_lt (tgt := 20) hx hb d_PM_line_7 (by decide) (fun q7 => ?_) (fun q7 => ?_)
    · refine lv_aload_n hx hb d_PM_line_20 rfl (lv_at hl 0 rfl) ?_
      refine g_PM_system hc w mw_239 d_PM_line_21 ?_
      refine lv_iload_n hx hb d_PM_line_24 rfl (lv_at hl 1 rfl) ?_
      refine lv_iload_n hx hb d_PM_line_25 rfl (lv_at hl 2 rfl) ?_
      refine cVZ (rest := []) hc w (c_SR_switchLine l E ad σ a1 a2) kv_SR_switchLine mw_432 2 rfl rfl ⟨Nat.le_of_ble_eq_true rfl, Nat.le_of_ble_eq_true rfl⟩ hl.1 rfl (Nat.le_of_ble_eq_true rfl) ⟨Nat.le_of_ble_eq_true rfl, Nat.le_of_ble_eq_true rfl⟩ d_PM_line_26 (fun z26 H locs hs26 w => ?_)
      have e_c1 : oZ (f_PM_line_c1 z26 a1 a2 ) = Z := by rw [← e0, f_PM_line, if_neg q1, if_pos q7, hs26]
      exact xt_z (v := z26.2) hc w (Nat.le_of_ble_eq_true rfl) (Nat.le_of_ble_eq_true rfl) d_PM_line_29 rfl (by rw [← e_c1, f_PM_line_c1] <;> rfl)
    · exact J10  _ w (lv_sub hl [] rfl) (by rw [← e0, f_PM_line, if_neg q1, if_neg q7])
-- PM_step
theorem st_in2 {a : Int32} (h1 : ¬ a < 1) (h2 : a ≤ 20000) : a = nI a.toNatClampNeg ∧ 1 ≤ a.toNatClampNeg ∧ a.toNatClampNeg ≤ 20000 := by
  rw [Int32.lt_iff_toInt_lt] at h1
  rw [Int32.le_iff_toInt_le] at h2
  have e1 : (1 : Int32).toInt = 1 := rfl
  have e2 : (20000 : Int32).toInt = 20000 := rfl
  obtain ⟨j, hj, rfl⟩ := nI_of (x := a) (by rw [Int32.lt_iff_toInt_lt]; have e0 : (0 : Int32).toInt = 0 := rfl; omega)
  rw [nI_toInt hj] at h1 h2
  rw [nI_clamp hj]
  exact ⟨rfl, by omega, by omega⟩
def f_PM_step_12 (σ : XS) (a1 : Int32) : (XS × Int32) ⊕ String := .inr "java/lang/IllegalArgumentException"
def f_PM_step_26 : Nat → XS → Int32 → Int32 → Int32 → (XS × Int32) ⊕ String
  | 0, σ26, a1, v26_3, v26_2 => .inl (σ26, 0)
  | fuel + 1, σ26, a1, v26_3, v26_2 => if a1 ≤ v26_3 then (.inl (σ26, v26_2)) else (if (zb (f_PR_stepWasFault σ26).2) = 0 then (f_PM_step_26 fuel (f_PR_stepWasFault σ26).1 a1 (v26_3 + (1 : Int32)) v26_2) else (f_PM_step_26 fuel (f_PR_stepWasFault σ26).1 a1 (v26_3 + (1 : Int32)) (v26_2 + (1 : Int32))))
def f_PM_step (σ : XS) (a1 : Int32) : (XS × Int32) ⊕ String := if a1 < (1 : Int32) then (f_PM_step_12 σ a1) else (if a1 ≤ (20000 : Int32) then (f_PM_step_26 (a1.toNatClampNeg + 1) σ a1 (0 : Int32) (0 : Int32)) else (f_PM_step_12 σ a1))
theorem d_PM_step_0 : decode b_PM_step 0 = .ok (.iload_n 1, 1) := by decide +kernel
theorem d_PM_step_1 : decode b_PM_step 1 = .ok (.iconst 1, 1) := by decide +kernel
theorem d_PM_step_2 : decode b_PM_step 2 = .ok (.if_icmp .lt 10, 3) := by decide +kernel
theorem d_PM_step_5 : decode b_PM_step 5 = .ok (.iload_n 1, 1) := by decide +kernel
theorem d_PM_step_6 : decode b_PM_step 6 = .ok (.sipush 20000, 3) := by decide +kernel
theorem d_PM_step_9 : decode b_PM_step 9 = .ok (.if_icmp .le 13, 3) := by decide +kernel
theorem d_PM_step_12 : decode b_PM_step 12 = .ok (.new 107, 3) := by decide +kernel
theorem d_PM_step_15 : decode b_PM_step 15 = .ok (.dup, 1) := by decide +kernel
theorem d_PM_step_16 : decode b_PM_step 16 = .ok (.ldc 109, 2) := by decide +kernel
theorem d_PM_step_18 : decode b_PM_step 18 = .ok (.invokespecial 111, 3) := by decide +kernel
theorem d_PM_step_21 : decode b_PM_step 21 = .ok (.athrow, 1) := by decide +kernel
theorem d_PM_step_22 : decode b_PM_step 22 = .ok (.iconst 0, 1) := by decide +kernel
theorem d_PM_step_23 : decode b_PM_step 23 = .ok (.istore_n 2, 1) := by decide +kernel
theorem d_PM_step_24 : decode b_PM_step 24 = .ok (.iconst 0, 1) := by decide +kernel
theorem d_PM_step_25 : decode b_PM_step 25 = .ok (.istore_n 3, 1) := by decide +kernel
theorem d_PM_step_26 : decode b_PM_step 26 = .ok (.iload_n 3, 1) := by decide +kernel
theorem d_PM_step_27 : decode b_PM_step 27 = .ok (.iload_n 1, 1) := by decide +kernel
theorem d_PM_step_28 : decode b_PM_step 28 = .ok (.if_icmp .ge 22, 3) := by decide +kernel
theorem d_PM_step_31 : decode b_PM_step 31 = .ok (.aload_n 0, 1) := by decide +kernel
theorem d_PM_step_32 : decode b_PM_step 32 = .ok (.getfield 51, 3) := by decide +kernel
theorem d_PM_step_35 : decode b_PM_step 35 = .ok (.invokevirtual 112, 3) := by decide +kernel
theorem d_PM_step_38 : decode b_PM_step 38 = .ok (.ifCond .eq 6, 3) := by decide +kernel
theorem d_PM_step_41 : decode b_PM_step 41 = .ok (.iinc 2 1, 3) := by decide +kernel
theorem d_PM_step_44 : decode b_PM_step 44 = .ok (.iinc 3 1, 3) := by decide +kernel
theorem d_PM_step_47 : decode b_PM_step 47 = .ok (.goto (-21), 3) := by decide +kernel
theorem d_PM_step_50 : decode b_PM_step 50 = .ok (.iload_n 2, 1) := by decide +kernel
theorem d_PM_step_51 : decode b_PM_step 51 = .ok (.ireturn, 1) := by decide +kernel
set_option maxHeartbeats 4000000 in
set_option maxRecDepth 100000 in
theorem c_PM_step (l : Launch) (hfl : l.flags = flags0) (E : Ev) (sa : Nat → Nat) (ad : Nat → Nat) (σ : XS) (a1 : Int32) : xC xCl l E sa xstrs (xW E ad) y_PM_step b_PM_step 4 (Option.some Jvm.ClassFile.FieldType.int) (rmx 7 164) [.ref (ad 0), .int a1] σ (oI (f_PM_step σ a1)) := by
  refine xC.of (by decide) (Nat.le_of_ble_eq_true rfl) ?_
  intro p e s m below meth c A ls hc hne hth w hl
  generalize e0 : oI (f_PM_step σ a1) = Z
  have hc : Cx xCl E A p s m ([.ref (ad 0), .int a1] : List Value).toArray meth c b_PM_step 4 (Option.some Jvm.ClassFile.FieldType.int) "PageMachine" := hc
  have hx := hc.1
  have hb := hc.2.1
  have ho := hc.2.2.2.2.2.1
  have hT := hc.2.2.2.2.2.2.1
  have hl : lv_has ls 4 [(0, .ref (ad 0)), (1, .int a1)] := hl
  have J12 : ∀ (ls : Array Slot), Wd xCl E A s.heap s.heap [] (xW E ad σ) → lv_has ls 4 [] → oI (f_PM_step_12 σ a1) = Z → W p l e (rmx 7 164) s m ([.ref (ad 0), .int a1] : List Value).toArray below meth c s.heap [] 0 0 (xE xCl below (xW E ad) E A σ Z s) (F0 m 12 ls []) := by
    intro  ls w hl e12
    exact x_throw (strs := xstrs) (by rw [← e12, f_PM_step_12] <;> rfl) hc hfl hne hth w hl.1 (by decide) th_IA mw_284 mw_285 mw_16 (List.mem_of_getElem? (i := 4) rfl) ⟨Nat.le_of_ble_eq_true rfl, Nat.le_of_ble_eq_true rfl⟩ (Nat.le_of_ble_eq_true rfl) (Nat.le_of_ble_eq_true rfl) d_PM_step_12 d_PM_step_15 d_PM_step_16 d_PM_step_18 d_PM_step_21
  have J26 : ∀ (fuel : Nat) (σ26 : XS) (v26_3 : Int32) (v26_2 : Int32) , (∃ i : Nat, v26_3 = nI i ∧ i ≤ a1.toNatClampNeg ∧ i + fuel = a1.toNatClampNeg + 1 ∧ a1 = nI a1.toNatClampNeg ∧ a1.toNatClampNeg ≤ 20000) → ∀ (H : Heap) (locs : List Loc) (ls : Array Slot), Wd xCl E A s.heap H locs (xW E ad σ26) → lv_has ls 4 [(3, .int v26_3), (2, .int v26_2), (0, .ref (ad 0)), (1, .int a1)] → oI (f_PM_step_26 fuel σ26 a1 v26_3 v26_2) = Z → W p l e (rmx 7 164) s m ([.ref (ad 0), .int a1] : List Value).toArray below meth c H locs 0 0 (xE xCl below (xW E ad) E A σ Z s) (F0 m 26 ls []) := by
    intro fuel
    induction fuel with
    | zero =>
      intro σ26 v26_3 v26_2 hinv
      exact absurd hinv (fun ⟨i, _, h1, h2, _, _⟩ => by omega)
    | succ fuel ih =>
      intro σ26 v26_3 v26_2 hinv H locs ls w hl e26
      obtain ⟨i, hi, hj1, hj2, hj3, hj4⟩ := hinv
      refine lv_iload_n hx hb d_PM_step_26 rfl (lv_at hl 0 rfl) ?_
      refine lv_iload_n hx hb d_PM_step_27 rfl (lv_at hl 3 rfl) ?_
      refine lv_icmp_ge (tgt := 50) hx hb d_PM_step_28 (by decide) (fun q28 => ?_) (fun q28 => ?_)
      · refine lv_iload_n hx hb d_PM_step_50 rfl (lv_at hl 1 rfl) ?_
        exact xt_i hc w (Nat.le_of_ble_eq_true rfl) (Nat.le_of_ble_eq_true rfl) d_PM_step_51 (by rw [← e26, f_PM_step_26, if_pos q28] <;> rfl)
      · refine lv_aload_n hx hb d_PM_step_31 rfl (lv_at hl 2 rfl) ?_
        refine g_PM_processor hc w mw_243 d_PM_step_32 ?_
        refine cVZ (rest := []) hc w (c_PR_stepWasFault l E ad σ26) kv_PR_stepWasFault mw_444 6 rfl rfl ⟨Nat.le_of_ble_eq_true rfl, Nat.le_of_ble_eq_true rfl⟩ hl.1 rfl (Nat.le_of_ble_eq_true rfl) ⟨Nat.le_of_ble_eq_true rfl, Nat.le_of_ble_eq_true rfl⟩ d_PM_step_35 (fun z35 H locs hs35 w => ?_)
        refine lv_if_eq (tgt := 44) hx hb d_PM_step_38 (by decide) (fun q38 => ?_) (fun q38 => ?_)
        · refine lv_iinc (v := v26_3 + (1 : Int32)) (lv' := [(3, .int (v26_3 + (1 : Int32))), (2, .int v26_2), (0, .ref (ad 0)), (1, .int a1)]) hx hb d_PM_step_44 hl (k := 0) rfl rfl (by decide) rfl (fun ls hl => ?_)
          refine lv_goto (tgt := 26) hx hb d_PM_step_47 (by decide) ?_
          exact ih z35.1 (v26_3 + (1 : Int32)) v26_2 (⟨i + 1, (bd_lt hi hj3 q28 (by omega) (by omega)).2.2, (bd_lt hi hj3 q28 (by omega) (by omega)).1, by omega, hj3, hj4⟩) _ _ _ w (lv_sub hl [0, 1, 2, 3] rfl) (by rw [← e26, f_PM_step_26, if_neg q28, hs35, if_pos q38])
        · refine lv_iinc (v := v26_2 + (1 : Int32)) (lv' := [(2, .int (v26_2 + (1 : Int32))), (3, .int v26_3), (0, .ref (ad 0)), (1, .int a1)]) hx hb d_PM_step_41 hl (k := 1) rfl rfl (by decide) rfl (fun ls hl => ?_)
          refine lv_iinc (v := v26_3 + (1 : Int32)) (lv' := [(3, .int (v26_3 + (1 : Int32))), (2, .int (v26_2 + (1 : Int32))), (0, .ref (ad 0)), (1, .int a1)]) hx hb d_PM_step_44 hl (k := 1) rfl rfl (by decide) rfl (fun ls hl => ?_)
          refine lv_goto (tgt := 26) hx hb d_PM_step_47 (by decide) ?_
          exact ih z35.1 (v26_3 + (1 : Int32)) (v26_2 + (1 : Int32)) (⟨i + 1, (bd_lt hi hj3 q28 (by omega) (by omega)).2.2, (bd_lt hi hj3 q28 (by omega) (by omega)).1, by omega, hj3, hj4⟩) _ _ _ w (lv_sub hl [0, 1, 2, 3] rfl) (by rw [← e26, f_PM_step_26, if_neg q28, hs35, if_neg q38])
  refine lv_iload_n hx hb d_PM_step_0 rfl (lv_at hl 1 rfl) ?_
  refine lv_iconst (v := 1) hx hb d_PM_step_1 (by decide) ?_
  refine lv_icmp_lt (tgt := 12) hx hb d_PM_step_2 (by decide) (fun q2 => ?_) (fun q2 => ?_)
  · exact J12  _ w (lv_sub hl [] rfl) (by rw [← e0, f_PM_step, if_pos q2])
  · refine lv_iload_n hx hb d_PM_step_5 rfl (lv_at hl 1 rfl) ?_
    refine lv_sipush (v := 20000) hx hb d_PM_step_6 (by decide) ?_
    refine lv_icmp_le (tgt := 22) hx hb d_PM_step_9 (by decide) (fun q9 => ?_) (fun q9 => ?_)
    · refine lv_iconst (v := 0) hx hb d_PM_step_22 (by decide) ?_
      refine lv_istore_n (lv' := [(2, .int (0 : Int32)), (0, .ref (ad 0)), (1, .int a1)]) hx hb d_PM_step_23 rfl hl (by decide) rfl (fun ls hl => ?_)
      refine lv_iconst (v := 0) hx hb d_PM_step_24 (by decide) ?_
      refine lv_istore_n (lv' := [(3, .int (0 : Int32)), (2, .int (0 : Int32)), (0, .ref (ad 0)), (1, .int a1)]) hx hb d_PM_step_25 rfl hl (by decide) rfl (fun ls hl => ?_)
      exact J26 (a1.toNatClampNeg + 1) σ (0 : Int32) (0 : Int32) (⟨0, rfl, by omega, by omega, (st_in2 q2 q9).1, (st_in2 q2 q9).2.2⟩) _ _ _ w (lv_sub hl [0, 1, 2, 3] rfl) (by rw [← e0, f_PM_step, if_neg q2, if_pos q9])
    · exact J12  _ w (lv_sub hl [] rfl) (by rw [← e0, f_PM_step, if_neg q2, if_neg q9])
-- PM_entry
def f_PM_entry_19 (σ : XS) (a1 : Int32) (a2 : Int32) : (XS × Int32) ⊕ String := .inr "java/lang/IndexOutOfBoundsException"
def f_PM_entry (σ : XS) (a1 : Int32) (a2 : Int32) : (XS × Int32) ⊕ String := if a1 < 0 then (f_PM_entry_19 σ a1 a2) else (if (32 : Int32) ≤ a1 then (f_PM_entry_19 σ a1 a2) else (if a2 < 0 then (f_PM_entry_19 σ a1 a2) else (if a2 ≤ (4 : Int32) then (if a2 = (0 : Int32) then (.inl (σ, f_TL_pageOf σ a1)) else (if a2 = (1 : Int32) then (.inl (σ, f_TL_asidOf σ a1)) else (if a2 = (2 : Int32) then (.inl (σ, f_TL_globalOf σ a1)) else (.inl (σ, f_TL_halfOf σ a1 (a2 - (3 : Int32))))))) else (f_PM_entry_19 σ a1 a2))))
theorem d_PM_entry_0 : decode b_PM_entry 0 = .ok (.iload_n 1, 1) := by decide +kernel
theorem d_PM_entry_1 : decode b_PM_entry 1 = .ok (.ifCond .lt 18, 3) := by decide +kernel
theorem d_PM_entry_4 : decode b_PM_entry 4 = .ok (.iload_n 1, 1) := by decide +kernel
theorem d_PM_entry_5 : decode b_PM_entry 5 = .ok (.bipush 32, 2) := by decide +kernel
theorem d_PM_entry_7 : decode b_PM_entry 7 = .ok (.if_icmp .ge 12, 3) := by decide +kernel
theorem d_PM_entry_10 : decode b_PM_entry 10 = .ok (.iload_n 2, 1) := by decide +kernel
theorem d_PM_entry_11 : decode b_PM_entry 11 = .ok (.ifCond .lt 8, 3) := by decide +kernel
theorem d_PM_entry_14 : decode b_PM_entry 14 = .ok (.iload_n 2, 1) := by decide +kernel
theorem d_PM_entry_15 : decode b_PM_entry 15 = .ok (.iconst 4, 1) := by decide +kernel
theorem d_PM_entry_16 : decode b_PM_entry 16 = .ok (.if_icmp .le 13, 3) := by decide +kernel
theorem d_PM_entry_19 : decode b_PM_entry 19 = .ok (.new 96, 3) := by decide +kernel
theorem d_PM_entry_22 : decode b_PM_entry 22 = .ok (.dup, 1) := by decide +kernel
theorem d_PM_entry_23 : decode b_PM_entry 23 = .ok (.ldc 116, 2) := by decide +kernel
theorem d_PM_entry_25 : decode b_PM_entry 25 = .ok (.invokespecial 100, 3) := by decide +kernel
theorem d_PM_entry_28 : decode b_PM_entry 28 = .ok (.athrow, 1) := by decide +kernel
theorem d_PM_entry_29 : decode b_PM_entry 29 = .ok (.iload_n 2, 1) := by decide +kernel
theorem d_PM_entry_30 : decode b_PM_entry 30 = .ok (.tableswitch 53 0 2 #[26, 35, 44], 26) := by decide +kernel
theorem d_PM_entry_56 : decode b_PM_entry 56 = .ok (.aload_n 0, 1) := by decide +kernel
theorem d_PM_entry_57 : decode b_PM_entry 57 = .ok (.getfield 26, 3) := by decide +kernel
theorem d_PM_entry_60 : decode b_PM_entry 60 = .ok (.iload_n 1, 1) := by decide +kernel
theorem d_PM_entry_61 : decode b_PM_entry 61 = .ok (.invokevirtual 118, 3) := by decide +kernel
theorem d_PM_entry_64 : decode b_PM_entry 64 = .ok (.ireturn, 1) := by decide +kernel
theorem d_PM_entry_65 : decode b_PM_entry 65 = .ok (.aload_n 0, 1) := by decide +kernel
theorem d_PM_entry_66 : decode b_PM_entry 66 = .ok (.getfield 26, 3) := by decide +kernel
theorem d_PM_entry_69 : decode b_PM_entry 69 = .ok (.iload_n 1, 1) := by decide +kernel
theorem d_PM_entry_70 : decode b_PM_entry 70 = .ok (.invokevirtual 121, 3) := by decide +kernel
theorem d_PM_entry_73 : decode b_PM_entry 73 = .ok (.ireturn, 1) := by decide +kernel
theorem d_PM_entry_74 : decode b_PM_entry 74 = .ok (.aload_n 0, 1) := by decide +kernel
theorem d_PM_entry_75 : decode b_PM_entry 75 = .ok (.getfield 26, 3) := by decide +kernel
theorem d_PM_entry_78 : decode b_PM_entry 78 = .ok (.iload_n 1, 1) := by decide +kernel
theorem d_PM_entry_79 : decode b_PM_entry 79 = .ok (.invokevirtual 124, 3) := by decide +kernel
theorem d_PM_entry_82 : decode b_PM_entry 82 = .ok (.ireturn, 1) := by decide +kernel
theorem d_PM_entry_83 : decode b_PM_entry 83 = .ok (.aload_n 0, 1) := by decide +kernel
theorem d_PM_entry_84 : decode b_PM_entry 84 = .ok (.getfield 26, 3) := by decide +kernel
theorem d_PM_entry_87 : decode b_PM_entry 87 = .ok (.iload_n 1, 1) := by decide +kernel
theorem d_PM_entry_88 : decode b_PM_entry 88 = .ok (.iload_n 2, 1) := by decide +kernel
theorem d_PM_entry_89 : decode b_PM_entry 89 = .ok (.iconst 3, 1) := by decide +kernel
theorem d_PM_entry_90 : decode b_PM_entry 90 = .ok (.isub, 1) := by decide +kernel
theorem d_PM_entry_91 : decode b_PM_entry 91 = .ok (.invokevirtual 127, 3) := by decide +kernel
theorem d_PM_entry_94 : decode b_PM_entry 94 = .ok (.ireturn, 1) := by decide +kernel
set_option maxHeartbeats 4000000 in
set_option maxRecDepth 100000 in
theorem c_PM_entry (l : Launch) (hfl : l.flags = flags0) (E : Ev) (sa : Nat → Nat) (ad : Nat → Nat) (σ : XS) (a1 : Int32) (a2 : Int32) : xC xCl l E sa xstrs (xW E ad) y_PM_entry b_PM_entry 3 (Option.some Jvm.ClassFile.FieldType.int) (rmx 6 82) [.ref (ad 0), .int a1, .int a2] σ (oI (f_PM_entry σ a1 a2)) := by
  refine xC.of (by decide) (Nat.le_of_ble_eq_true rfl) ?_
  intro p e s m below meth c A ls hc hne hth w hl
  generalize e0 : oI (f_PM_entry σ a1 a2) = Z
  have hc : Cx xCl E A p s m ([.ref (ad 0), .int a1, .int a2] : List Value).toArray meth c b_PM_entry 3 (Option.some Jvm.ClassFile.FieldType.int) "PageMachine" := hc
  have hx := hc.1
  have hb := hc.2.1
  have ho := hc.2.2.2.2.2.1
  have hT := hc.2.2.2.2.2.2.1
  have hl : lv_has ls 3 [(0, .ref (ad 0)), (1, .int a1), (2, .int a2)] := hl
  have J19 : ∀ (ls : Array Slot), Wd xCl E A s.heap s.heap [] (xW E ad σ) → lv_has ls 3 [] → oI (f_PM_entry_19 σ a1 a2) = Z → W p l e (rmx 6 82) s m ([.ref (ad 0), .int a1, .int a2] : List Value).toArray below meth c s.heap [] 0 0 (xE xCl below (xW E ad) E A σ Z s) (F0 m 19 ls []) := by
    intro  ls w hl e19
    exact x_throw (strs := xstrs) (by rw [← e19, f_PM_entry_19] <;> rfl) hc hfl hne hth w hl.1 (by decide) th_IO mw_356 mw_357 mw_17 (List.mem_of_getElem? (i := 5) rfl) ⟨Nat.le_of_ble_eq_true rfl, Nat.le_of_ble_eq_true rfl⟩ (Nat.le_of_ble_eq_true rfl) (Nat.le_of_ble_eq_true rfl) d_PM_entry_19 d_PM_entry_22 d_PM_entry_23 d_PM_entry_25 d_PM_entry_28
  refine lv_iload_n hx hb d_PM_entry_0 rfl (lv_at hl 1 rfl) ?_
  refine lv_if_lt (tgt := 19) hx hb d_PM_entry_1 (by decide) (fun q1 => ?_) (fun q1 => ?_)
  · exact J19  _ w (lv_sub hl [] rfl) (by rw [← e0, f_PM_entry, if_pos q1])
  · refine lv_iload_n hx hb d_PM_entry_4 rfl (lv_at hl 1 rfl) ?_
    refine lv_bipush (v := 32) hx hb d_PM_entry_5 (by decide) ?_
    refine lv_icmp_ge (tgt := 19) hx hb d_PM_entry_7 (by decide) (fun q7 => ?_) (fun q7 => ?_)
    · exact J19  _ w (lv_sub hl [] rfl) (by rw [← e0, f_PM_entry, if_neg q1, if_pos q7])
    · refine lv_iload_n hx hb d_PM_entry_10 rfl (lv_at hl 2 rfl) ?_
      refine lv_if_lt (tgt := 19) hx hb d_PM_entry_11 (by decide) (fun q11 => ?_) (fun q11 => ?_)
      · exact J19  _ w (lv_sub hl [] rfl) (by rw [← e0, f_PM_entry, if_neg q1, if_neg q7, if_pos q11])
      · refine lv_iload_n hx hb d_PM_entry_14 rfl (lv_at hl 2 rfl) ?_
        refine lv_iconst (v := 4) hx hb d_PM_entry_15 (by decide) ?_
        refine lv_icmp_le (tgt := 29) hx hb d_PM_entry_16 (by decide) (fun q16 => ?_) (fun q16 => ?_)
        · refine lv_iload_n hx hb d_PM_entry_29 rfl (lv_at hl 2 rfl) ?_
          by_cases q30_0 : a2 = (0 : Int32)
          · refine lv_tableIn (tgt := 56) (off := 26) hx hb d_PM_entry_30 (by rw [q30_0]; decide) (by rw [q30_0]; decide) (by rw [q30_0]; rfl) (by decide) ?_
            refine lv_aload_n hx hb d_PM_entry_56 rfl (lv_at hl 0 rfl) ?_
            refine g_PM_tlb hc w mw_240 d_PM_entry_57 ?_
            refine lv_iload_n hx hb d_PM_entry_60 rfl (lv_at hl 1 rfl) ?_
            refine rVI (rest := []) hc w (c_TL_pageOf l E ad σ a1) kv_TL_pageOf mw_845 3 rfl rfl ⟨Nat.le_of_ble_eq_true rfl, Nat.le_of_ble_eq_true rfl⟩ hl.1 rfl (Nat.le_of_ble_eq_true rfl) ⟨Nat.le_of_ble_eq_true rfl, Nat.le_of_ble_eq_true rfl⟩ d_PM_entry_61 (fun H locs w => ?_)
            exact xt_i hc w (Nat.le_of_ble_eq_true rfl) (Nat.le_of_ble_eq_true rfl) d_PM_entry_64 (by rw [← e0, f_PM_entry, if_neg q1, if_neg q7, if_neg q11, if_pos q16, if_pos q30_0] <;> rfl)
          · by_cases q30_1 : a2 = (1 : Int32)
            · refine lv_tableIn (tgt := 65) (off := 35) hx hb d_PM_entry_30 (by rw [q30_1]; decide) (by rw [q30_1]; decide) (by rw [q30_1]; rfl) (by decide) ?_
              refine lv_aload_n hx hb d_PM_entry_65 rfl (lv_at hl 0 rfl) ?_
              refine g_PM_tlb hc w mw_240 d_PM_entry_66 ?_
              refine lv_iload_n hx hb d_PM_entry_69 rfl (lv_at hl 1 rfl) ?_
              refine rVI (rest := []) hc w (c_TL_asidOf l E ad σ a1) kv_TL_asidOf mw_846 3 rfl rfl ⟨Nat.le_of_ble_eq_true rfl, Nat.le_of_ble_eq_true rfl⟩ hl.1 rfl (Nat.le_of_ble_eq_true rfl) ⟨Nat.le_of_ble_eq_true rfl, Nat.le_of_ble_eq_true rfl⟩ d_PM_entry_70 (fun H locs w => ?_)
              exact xt_i hc w (Nat.le_of_ble_eq_true rfl) (Nat.le_of_ble_eq_true rfl) d_PM_entry_73 (by rw [← e0, f_PM_entry, if_neg q1, if_neg q7, if_neg q11, if_pos q16, if_neg q30_0, if_pos q30_1] <;> rfl)
            · by_cases q30_2 : a2 = (2 : Int32)
              · refine lv_tableIn (tgt := 74) (off := 44) hx hb d_PM_entry_30 (by rw [q30_2]; decide) (by rw [q30_2]; decide) (by rw [q30_2]; rfl) (by decide) ?_
                refine lv_aload_n hx hb d_PM_entry_74 rfl (lv_at hl 0 rfl) ?_
                refine g_PM_tlb hc w mw_240 d_PM_entry_75 ?_
                refine lv_iload_n hx hb d_PM_entry_78 rfl (lv_at hl 1 rfl) ?_
                refine rVI (rest := []) hc w (c_TL_globalOf l E ad σ a1) kv_TL_globalOf mw_847 3 rfl rfl ⟨Nat.le_of_ble_eq_true rfl, Nat.le_of_ble_eq_true rfl⟩ hl.1 rfl (Nat.le_of_ble_eq_true rfl) ⟨Nat.le_of_ble_eq_true rfl, Nat.le_of_ble_eq_true rfl⟩ d_PM_entry_79 (fun H locs w => ?_)
                exact xt_i hc w (Nat.le_of_ble_eq_true rfl) (Nat.le_of_ble_eq_true rfl) d_PM_entry_82 (by rw [← e0, f_PM_entry, if_neg q1, if_neg q7, if_neg q11, if_pos q16, if_neg q30_0, if_neg q30_1, if_pos q30_2] <;> rfl)
              · refine lv_tableOut (tgt := 83) hx hb d_PM_entry_30 (by have k0 := ne_k q30_0 (n := 0) (by decide); have k1 := ne_k q30_1 (n := 1) (by decide); have k2 := ne_k q30_2 (n := 2) (by decide); omega) (by decide) ?_
                refine lv_aload_n hx hb d_PM_entry_83 rfl (lv_at hl 0 rfl) ?_
                refine g_PM_tlb hc w mw_240 d_PM_entry_84 ?_
                refine lv_iload_n hx hb d_PM_entry_87 rfl (lv_at hl 1 rfl) ?_
                refine lv_iload_n hx hb d_PM_entry_88 rfl (lv_at hl 2 rfl) ?_
                refine lv_iconst (v := 3) hx hb d_PM_entry_89 (by decide) ?_
                refine lv_isub hx hb d_PM_entry_90 ?_
                refine rVI (rest := []) hc w (c_TL_halfOf l E ad σ a1 (a2 - (3 : Int32))) kv_TL_halfOf mw_848 3 rfl rfl ⟨Nat.le_of_ble_eq_true rfl, Nat.le_of_ble_eq_true rfl⟩ hl.1 rfl (Nat.le_of_ble_eq_true rfl) ⟨Nat.le_of_ble_eq_true rfl, Nat.le_of_ble_eq_true rfl⟩ d_PM_entry_91 (fun H locs w => ?_)
                exact xt_i hc w (Nat.le_of_ble_eq_true rfl) (Nat.le_of_ble_eq_true rfl) d_PM_entry_94 (by rw [← e0, f_PM_entry, if_neg q1, if_neg q7, if_neg q11, if_pos q16, if_neg q30_0, if_neg q30_1, if_neg q30_2] <;> rfl)
        · exact J19  _ w (lv_sub hl [] rfl) (by rw [← e0, f_PM_entry, if_neg q1, if_neg q7, if_neg q11, if_neg q16])
-- PM_translate
def f_PM_translate_57 (σ : XS) (a1 : Int32) (a2 : Int32) (v57_5 : Int32) (w57_0 : Int32) : (XS × Int64) ⊕ String := .inl (σ, Int32.toInt64 (w57_0 - (f_FA_codeOf σ v57_5)))
def f_PM_translate_19 (σ : XS) (a1 : Int32) (a2 : Int32) : (XS × Int64) ⊕ String := if (lg_cmp (f_AS_locate σ a1 a2) (0 : Int64)) < 0 then (if (zb (f_FA_isRefill σ (f_AS_faultIn σ (f_AS_locate σ a1 a2)))) = 0 then (f_PM_translate_57 σ a1 a2 (f_AS_faultIn σ (f_AS_locate σ a1 a2)) (-1 : Int32)) else (f_PM_translate_57 σ a1 a2 (f_AS_faultIn σ (f_AS_locate σ a1 a2)) (-101 : Int32))) else (.inl (σ, f_AS_locate σ a1 a2))
def f_PM_translate (σ : XS) (a1 : Int32) (a2 : Int32) : (XS × Int64) ⊕ String := if a2 = 0 then (f_PM_translate_19 σ a1 a2) else (if a2 = (1 : Int32) then (f_PM_translate_19 σ a1 a2) else (.inr "java/lang/IllegalArgumentException"))
theorem d_PM_translate_0 : decode b_PM_translate 0 = .ok (.iload_n 2, 1) := by decide +kernel
theorem d_PM_translate_1 : decode b_PM_translate 1 = .ok (.ifCond .eq 18, 3) := by decide +kernel
theorem d_PM_translate_4 : decode b_PM_translate 4 = .ok (.iload_n 2, 1) := by decide +kernel
theorem d_PM_translate_5 : decode b_PM_translate 5 = .ok (.iconst 1, 1) := by decide +kernel
theorem d_PM_translate_6 : decode b_PM_translate 6 = .ok (.if_icmp .eq 13, 3) := by decide +kernel
theorem d_PM_translate_9 : decode b_PM_translate 9 = .ok (.new 107, 3) := by decide +kernel
theorem d_PM_translate_12 : decode b_PM_translate 12 = .ok (.dup, 1) := by decide +kernel
theorem d_PM_translate_13 : decode b_PM_translate 13 = .ok (.ldc 130, 2) := by decide +kernel
theorem d_PM_translate_15 : decode b_PM_translate 15 = .ok (.invokespecial 111, 3) := by decide +kernel
theorem d_PM_translate_18 : decode b_PM_translate 18 = .ok (.athrow, 1) := by decide +kernel
theorem d_PM_translate_19 : decode b_PM_translate 19 = .ok (.aload_n 0, 1) := by decide +kernel
theorem d_PM_translate_20 : decode b_PM_translate 20 = .ok (.getfield 35, 3) := by decide +kernel
theorem d_PM_translate_23 : decode b_PM_translate 23 = .ok (.iload_n 1, 1) := by decide +kernel
theorem d_PM_translate_24 : decode b_PM_translate 24 = .ok (.iload_n 2, 1) := by decide +kernel
theorem d_PM_translate_25 : decode b_PM_translate 25 = .ok (.invokevirtual 132, 3) := by decide +kernel
theorem d_PM_translate_28 : decode b_PM_translate 28 = .ok (.lstore_n 3, 1) := by decide +kernel
theorem d_PM_translate_29 : decode b_PM_translate 29 = .ok (.lload_n 3, 1) := by decide +kernel
theorem d_PM_translate_30 : decode b_PM_translate 30 = .ok (.lconst 0, 1) := by decide +kernel
theorem d_PM_translate_31 : decode b_PM_translate 31 = .ok (.lcmp, 1) := by decide +kernel
theorem d_PM_translate_32 : decode b_PM_translate 32 = .ok (.ifCond .lt 5, 3) := by decide +kernel
theorem d_PM_translate_35 : decode b_PM_translate 35 = .ok (.lload_n 3, 1) := by decide +kernel
theorem d_PM_translate_36 : decode b_PM_translate 36 = .ok (.lreturn, 1) := by decide +kernel
theorem d_PM_translate_37 : decode b_PM_translate 37 = .ok (.lload_n 3, 1) := by decide +kernel
theorem d_PM_translate_38 : decode b_PM_translate 38 = .ok (.invokestatic 136, 3) := by decide +kernel
theorem d_PM_translate_41 : decode b_PM_translate 41 = .ok (.istore 5, 2) := by decide +kernel
theorem d_PM_translate_43 : decode b_PM_translate 43 = .ok (.iload 5, 2) := by decide +kernel
theorem d_PM_translate_45 : decode b_PM_translate 45 = .ok (.invokestatic 140, 3) := by decide +kernel
theorem d_PM_translate_48 : decode b_PM_translate 48 = .ok (.ifCond .eq 8, 3) := by decide +kernel
theorem d_PM_translate_51 : decode b_PM_translate 51 = .ok (.bipush (-101), 2) := by decide +kernel
theorem d_PM_translate_53 : decode b_PM_translate 53 = .ok (.goto 4, 3) := by decide +kernel
theorem d_PM_translate_56 : decode b_PM_translate 56 = .ok (.iconst (-1), 1) := by decide +kernel
theorem d_PM_translate_57 : decode b_PM_translate 57 = .ok (.iload 5, 2) := by decide +kernel
theorem d_PM_translate_59 : decode b_PM_translate 59 = .ok (.invokestatic 146, 3) := by decide +kernel
theorem d_PM_translate_62 : decode b_PM_translate 62 = .ok (.isub, 1) := by decide +kernel
theorem d_PM_translate_63 : decode b_PM_translate 63 = .ok (.i2l, 1) := by decide +kernel
theorem d_PM_translate_64 : decode b_PM_translate 64 = .ok (.lreturn, 1) := by decide +kernel
set_option maxHeartbeats 4000000 in
set_option maxRecDepth 100000 in
theorem c_PM_translate (l : Launch) (hfl : l.flags = flags0) (E : Ev) (sa : Nat → Nat) (ad : Nat → Nat) (σ : XS) (a1 : Int32) (a2 : Int32) : xC xCl l E sa xstrs (xW E ad) y_PM_translate b_PM_translate 6 (Option.some Jvm.ClassFile.FieldType.long) (rmx 6 82) [.ref (ad 0), .int a1, .int a2] σ (oL (f_PM_translate σ a1 a2)) := by
  refine xC.of (by decide) (Nat.le_of_ble_eq_true rfl) ?_
  intro p e s m below meth c A ls hc hne hth w hl
  generalize e0 : oL (f_PM_translate σ a1 a2) = Z
  have hc : Cx xCl E A p s m ([.ref (ad 0), .int a1, .int a2] : List Value).toArray meth c b_PM_translate 6 (Option.some Jvm.ClassFile.FieldType.long) "PageMachine" := hc
  have hx := hc.1
  have hb := hc.2.1
  have ho := hc.2.2.2.2.2.1
  have hT := hc.2.2.2.2.2.2.1
  have hl : lv_has ls 6 [(0, .ref (ad 0)), (1, .int a1), (2, .int a2)] := hl
  have J57 : ∀ (v57_5 : Int32) (w57_0 : Int32) (H : Heap) (locs : List Loc) (ls : Array Slot), Wd xCl E A s.heap H locs (xW E ad σ) → lv_has ls 6 [(5, .int v57_5)] → oL (f_PM_translate_57 σ a1 a2 v57_5 w57_0) = Z → W p l e (rmx 6 82) s m ([.ref (ad 0), .int a1, .int a2] : List Value).toArray below meth c H locs 0 0 (xE xCl below (xW E ad) E A σ Z s) (F0 m 57 ls [.int w57_0]) := by
    intro v57_5 w57_0 H locs ls w hl e57
    refine lv_iload hx hb d_PM_translate_57 (lv_at hl 0 rfl) ?_
    refine rSI (rest := [.int w57_0]) hc w (c_FA_codeOf l E ad σ v57_5) ks_FA_codeOf mw_860 ⟨Nat.le_of_ble_eq_true rfl, Nat.le_of_ble_eq_true rfl⟩ hl.1 rfl (Nat.le_of_ble_eq_true rfl) ⟨Nat.le_of_ble_eq_true rfl, Nat.le_of_ble_eq_true rfl⟩ d_PM_translate_59 (fun H locs w => ?_)
    refine lv_isub hx hb d_PM_translate_62 ?_
    refine lv_i2l hx hb d_PM_translate_63 rfl ?_
    exact xt_l hc w (Nat.le_of_ble_eq_true rfl) (Nat.le_of_ble_eq_true rfl) d_PM_translate_64 (by rw [← e57, f_PM_translate_57] <;> rfl)
  have J19 : ∀ (H : Heap) (locs : List Loc) (ls : Array Slot), Wd xCl E A s.heap H locs (xW E ad σ) → lv_has ls 6 [(0, .ref (ad 0)), (1, .int a1), (2, .int a2)] → oL (f_PM_translate_19 σ a1 a2) = Z → W p l e (rmx 6 82) s m ([.ref (ad 0), .int a1, .int a2] : List Value).toArray below meth c H locs 0 0 (xE xCl below (xW E ad) E A σ Z s) (F0 m 19 ls []) := by
    intro  H locs ls w hl e19
    refine lv_aload_n hx hb d_PM_translate_19 rfl (lv_at hl 0 rfl) ?_
    refine g_PM_space hc w mw_241 d_PM_translate_20 ?_
    refine lv_iload_n hx hb d_PM_translate_23 rfl (lv_at hl 1 rfl) ?_
    refine lv_iload_n hx hb d_PM_translate_24 rfl (lv_at hl 2 rfl) ?_
    refine rVL (rest := []) hc w (c_AS_locate l E ad σ a1 a2) kv_AS_locate mw_857 4 rfl rfl ⟨Nat.le_of_ble_eq_true rfl, Nat.le_of_ble_eq_true rfl⟩ hl.1 rfl (Nat.le_of_ble_eq_true rfl) ⟨Nat.le_of_ble_eq_true rfl, Nat.le_of_ble_eq_true rfl⟩ d_PM_translate_25 (fun H locs w => ?_)
    refine lv_lstore_n (lv' := [(3, .long (f_AS_locate σ a1 a2)), (0, .ref (ad 0)), (1, .int a1), (2, .int a2)]) hx hb d_PM_translate_28 rfl hl (by decide) rfl (fun ls hl => ?_)
    refine lv_lload_n hx hb d_PM_translate_29 rfl (lv_at hl 0 rfl) ?_
    refine lv_lconst (v := 0) hx hb d_PM_translate_30 (by decide) ?_
    refine W.lcmp hx hb d_PM_translate_31 ?_
    refine lv_if_lt (tgt := 37) hx hb d_PM_translate_32 (by decide) (fun q32 => ?_) (fun q32 => ?_)
    · refine lv_lload_n hx hb d_PM_translate_37 rfl (lv_at hl 0 rfl) ?_
      refine rSI (rest := []) hc w (c_AS_faultIn l E ad σ (f_AS_locate σ a1 a2)) ks_AS_faultIn mw_858 ⟨Nat.le_of_ble_eq_true rfl, Nat.le_of_ble_eq_true rfl⟩ hl.1 rfl (Nat.le_of_ble_eq_true rfl) ⟨Nat.le_of_ble_eq_true rfl, Nat.le_of_ble_eq_true rfl⟩ d_PM_translate_38 (fun H locs w => ?_)
      refine lv_istore (lv' := [(5, .int (f_AS_faultIn σ (f_AS_locate σ a1 a2))), (3, .long (f_AS_locate σ a1 a2)), (0, .ref (ad 0)), (1, .int a1), (2, .int a2)]) hx hb d_PM_translate_41 hl (by decide) rfl (fun ls hl => ?_)
      refine lv_iload hx hb d_PM_translate_43 (lv_at hl 0 rfl) ?_
      refine rSZ (rest := []) hc w (c_FA_isRefill l E ad σ (f_AS_faultIn σ (f_AS_locate σ a1 a2))) ks_FA_isRefill mw_859 ⟨Nat.le_of_ble_eq_true rfl, Nat.le_of_ble_eq_true rfl⟩ hl.1 rfl (Nat.le_of_ble_eq_true rfl) ⟨Nat.le_of_ble_eq_true rfl, Nat.le_of_ble_eq_true rfl⟩ d_PM_translate_45 (fun H locs w => ?_)
      refine lv_if_eq (tgt := 56) hx hb d_PM_translate_48 (by decide) (fun q48 => ?_) (fun q48 => ?_)
      · refine lv_iconst (v := -1) hx hb d_PM_translate_56 (by decide) ?_
        exact J57 (f_AS_faultIn σ (f_AS_locate σ a1 a2)) (-1 : Int32) _ _ _ w (lv_sub hl [0] rfl) (by rw [← e19, f_PM_translate_19, if_pos q32, if_pos q48])
      · refine lv_bipush (v := -101) hx hb d_PM_translate_51 (by decide) ?_
        refine lv_goto (tgt := 57) hx hb d_PM_translate_53 (by decide) ?_
        exact J57 (f_AS_faultIn σ (f_AS_locate σ a1 a2)) (-101 : Int32) _ _ _ w (lv_sub hl [0] rfl) (by rw [← e19, f_PM_translate_19, if_pos q32, if_neg q48])
    · refine lv_lload_n hx hb d_PM_translate_35 rfl (lv_at hl 0 rfl) ?_
      exact xt_l hc w (Nat.le_of_ble_eq_true rfl) (Nat.le_of_ble_eq_true rfl) d_PM_translate_36 (by rw [← e19, f_PM_translate_19, if_neg q32] <;> rfl)
  refine lv_iload_n hx hb d_PM_translate_0 rfl (lv_at hl 2 rfl) ?_
  refine lv_if_eq (tgt := 19) hx hb d_PM_translate_1 (by decide) (fun q1 => ?_) (fun q1 => ?_)
  · exact J19  _ _ _ w (lv_sub hl [0, 1, 2] rfl) (by rw [← e0, f_PM_translate, if_pos q1])
  · refine lv_iload_n hx hb d_PM_translate_4 rfl (lv_at hl 2 rfl) ?_
    refine lv_iconst (v := 1) hx hb d_PM_translate_5 (by decide) ?_
    refine lv_icmp_eq (tgt := 19) hx hb d_PM_translate_6 (by decide) (fun q6 => ?_) (fun q6 => ?_)
    · exact J19  _ _ _ w (lv_sub hl [0, 1, 2] rfl) (by rw [← e0, f_PM_translate, if_neg q1, if_pos q6])
    · exact x_throw (strs := xstrs) (by rw [← e0, f_PM_translate, if_neg q1, if_neg q6] <;> rfl) hc hfl hne hth w hl.1 (by decide) th_IA mw_284 mw_285 mw_16 (List.mem_of_getElem? (i := 6) rfl) ⟨Nat.le_of_ble_eq_true rfl, Nat.le_of_ble_eq_true rfl⟩ (Nat.le_of_ble_eq_true rfl) (Nat.le_of_ble_eq_true rfl) d_PM_translate_9 d_PM_translate_12 d_PM_translate_13 d_PM_translate_15 d_PM_translate_18
-- PM_count
def f_PM_count_10 (σ : XS) (a1 : Int32) : (XS × Int32) ⊕ String := .inr "java/lang/IndexOutOfBoundsException"
def f_PM_count (σ : XS) (a1 : Int32) : (XS × Int32) ⊕ String := if a1 < 0 then (f_PM_count_10 σ a1) else (if a1 ≤ (16 : Int32) then (if a1 = (0 : Int32) then (.inl (σ, f_PR_steps σ)) else (if a1 = (15 : Int32) then (if (zb (x_inds σ)) = 0 then (.inl (σ, (0 : Int32))) else (.inl (σ, (1 : Int32)))) else (if a1 = (16 : Int32) then (.inl (σ, x_link σ)) else (.inl (σ, f_PR_faultsWith σ (a1 - (1 : Int32))))))) else (f_PM_count_10 σ a1))
theorem d_PM_count_0 : decode b_PM_count 0 = .ok (.iload_n 1, 1) := by decide +kernel
theorem d_PM_count_1 : decode b_PM_count 1 = .ok (.ifCond .lt 9, 3) := by decide +kernel
theorem d_PM_count_4 : decode b_PM_count 4 = .ok (.iload_n 1, 1) := by decide +kernel
theorem d_PM_count_5 : decode b_PM_count 5 = .ok (.bipush 16, 2) := by decide +kernel
theorem d_PM_count_7 : decode b_PM_count 7 = .ok (.if_icmp .le 13, 3) := by decide +kernel
theorem d_PM_count_10 : decode b_PM_count 10 = .ok (.new 96, 3) := by decide +kernel
theorem d_PM_count_13 : decode b_PM_count 13 = .ok (.dup, 1) := by decide +kernel
theorem d_PM_count_14 : decode b_PM_count 14 = .ok (.ldc 153, 2) := by decide +kernel
theorem d_PM_count_16 : decode b_PM_count 16 = .ok (.invokespecial 100, 3) := by decide +kernel
theorem d_PM_count_19 : decode b_PM_count 19 = .ok (.athrow, 1) := by decide +kernel
theorem d_PM_count_20 : decode b_PM_count 20 = .ok (.iload_n 1, 1) := by decide +kernel
theorem d_PM_count_21 : decode b_PM_count 21 = .ok (.lookupswitch 67 #[(0, 35), (15, 43), (16, 59)], 35) := by decide +kernel
theorem d_PM_count_56 : decode b_PM_count 56 = .ok (.aload_n 0, 1) := by decide +kernel
theorem d_PM_count_57 : decode b_PM_count 57 = .ok (.getfield 51, 3) := by decide +kernel
theorem d_PM_count_60 : decode b_PM_count 60 = .ok (.invokevirtual 155, 3) := by decide +kernel
theorem d_PM_count_63 : decode b_PM_count 63 = .ok (.ireturn, 1) := by decide +kernel
theorem d_PM_count_64 : decode b_PM_count 64 = .ok (.aload_n 0, 1) := by decide +kernel
theorem d_PM_count_65 : decode b_PM_count 65 = .ok (.getfield 42, 3) := by decide +kernel
theorem d_PM_count_68 : decode b_PM_count 68 = .ok (.getfield 159, 3) := by decide +kernel
theorem d_PM_count_71 : decode b_PM_count 71 = .ok (.ifCond .eq 7, 3) := by decide +kernel
theorem d_PM_count_74 : decode b_PM_count 74 = .ok (.iconst 1, 1) := by decide +kernel
theorem d_PM_count_75 : decode b_PM_count 75 = .ok (.goto 4, 3) := by decide +kernel
theorem d_PM_count_78 : decode b_PM_count 78 = .ok (.iconst 0, 1) := by decide +kernel
theorem d_PM_count_79 : decode b_PM_count 79 = .ok (.ireturn, 1) := by decide +kernel
theorem d_PM_count_80 : decode b_PM_count 80 = .ok (.aload_n 0, 1) := by decide +kernel
theorem d_PM_count_81 : decode b_PM_count 81 = .ok (.getfield 42, 3) := by decide +kernel
theorem d_PM_count_84 : decode b_PM_count 84 = .ok (.getfield 163, 3) := by decide +kernel
theorem d_PM_count_87 : decode b_PM_count 87 = .ok (.ireturn, 1) := by decide +kernel
theorem d_PM_count_88 : decode b_PM_count 88 = .ok (.aload_n 0, 1) := by decide +kernel
theorem d_PM_count_89 : decode b_PM_count 89 = .ok (.getfield 51, 3) := by decide +kernel
theorem d_PM_count_92 : decode b_PM_count 92 = .ok (.iload_n 1, 1) := by decide +kernel
theorem d_PM_count_93 : decode b_PM_count 93 = .ok (.iconst 1, 1) := by decide +kernel
theorem d_PM_count_94 : decode b_PM_count 94 = .ok (.isub, 1) := by decide +kernel
theorem d_PM_count_95 : decode b_PM_count 95 = .ok (.invokevirtual 166, 3) := by decide +kernel
theorem d_PM_count_98 : decode b_PM_count 98 = .ok (.ireturn, 1) := by decide +kernel
set_option maxHeartbeats 4000000 in
set_option maxRecDepth 100000 in
theorem c_PM_count (l : Launch) (hfl : l.flags = flags0) (E : Ev) (sa : Nat → Nat) (ad : Nat → Nat) (σ : XS) (a1 : Int32) : xC xCl l E sa xstrs (xW E ad) y_PM_count b_PM_count 2 (Option.some Jvm.ClassFile.FieldType.int) (rmx 6 82) [.ref (ad 0), .int a1] σ (oI (f_PM_count σ a1)) := by
  refine xC.of (by decide) (Nat.le_of_ble_eq_true rfl) ?_
  intro p e s m below meth c A ls hc hne hth w hl
  generalize e0 : oI (f_PM_count σ a1) = Z
  have hc : Cx xCl E A p s m ([.ref (ad 0), .int a1] : List Value).toArray meth c b_PM_count 2 (Option.some Jvm.ClassFile.FieldType.int) "PageMachine" := hc
  have hx := hc.1
  have hb := hc.2.1
  have ho := hc.2.2.2.2.2.1
  have hT := hc.2.2.2.2.2.2.1
  have hl : lv_has ls 2 [(0, .ref (ad 0)), (1, .int a1)] := hl
  have J10 : ∀ (ls : Array Slot), Wd xCl E A s.heap s.heap [] (xW E ad σ) → lv_has ls 2 [] → oI (f_PM_count_10 σ a1) = Z → W p l e (rmx 6 82) s m ([.ref (ad 0), .int a1] : List Value).toArray below meth c s.heap [] 0 0 (xE xCl below (xW E ad) E A σ Z s) (F0 m 10 ls []) := by
    intro  ls w hl e10
    exact x_throw (strs := xstrs) (by rw [← e10, f_PM_count_10] <;> rfl) hc hfl hne hth w hl.1 (by decide) th_IO mw_356 mw_357 mw_17 (List.mem_of_getElem? (i := 7) rfl) ⟨Nat.le_of_ble_eq_true rfl, Nat.le_of_ble_eq_true rfl⟩ (Nat.le_of_ble_eq_true rfl) (Nat.le_of_ble_eq_true rfl) d_PM_count_10 d_PM_count_13 d_PM_count_14 d_PM_count_16 d_PM_count_19
  refine lv_iload_n hx hb d_PM_count_0 rfl (lv_at hl 1 rfl) ?_
  refine lv_if_lt (tgt := 10) hx hb d_PM_count_1 (by decide) (fun q1 => ?_) (fun q1 => ?_)
  · exact J10  _ w (lv_sub hl [] rfl) (by rw [← e0, f_PM_count, if_pos q1])
  · refine lv_iload_n hx hb d_PM_count_4 rfl (lv_at hl 1 rfl) ?_
    refine lv_bipush (v := 16) hx hb d_PM_count_5 (by decide) ?_
    refine lv_icmp_le (tgt := 20) hx hb d_PM_count_7 (by decide) (fun q7 => ?_) (fun q7 => ?_)
    · refine lv_iload_n hx hb d_PM_count_20 rfl (lv_at hl 1 rfl) ?_
      by_cases q21_0 : a1 = (0 : Int32)
      · refine lv_lookup (tgt := 56) (off := 35) hx hb d_PM_count_21 (by decide) (by rw [q21_0]; decide) (by decide) ?_
        refine lv_aload_n hx hb d_PM_count_56 rfl (lv_at hl 0 rfl) ?_
        refine g_PM_processor hc w mw_243 d_PM_count_57 ?_
        refine rVI (rest := []) hc w (c_PR_steps l E ad σ) kv_PR_steps mw_869 6 rfl rfl ⟨Nat.le_of_ble_eq_true rfl, Nat.le_of_ble_eq_true rfl⟩ hl.1 rfl (Nat.le_of_ble_eq_true rfl) ⟨Nat.le_of_ble_eq_true rfl, Nat.le_of_ble_eq_true rfl⟩ d_PM_count_60 (fun H locs w => ?_)
        exact xt_i hc w (Nat.le_of_ble_eq_true rfl) (Nat.le_of_ble_eq_true rfl) d_PM_count_63 (by rw [← e0, f_PM_count, if_neg q1, if_pos q7, if_pos q21_0] <;> rfl)
      · by_cases q21_1 : a1 = (15 : Int32)
        · refine lv_lookup (tgt := 64) (off := 43) hx hb d_PM_count_21 (by decide) (by rw [q21_1]; decide) (by decide) ?_
          refine lv_aload_n hx hb d_PM_count_64 rfl (lv_at hl 0 rfl) ?_
          refine g_PM_core hc w mw_242 d_PM_count_65 ?_
          refine g_CO_inDelaySlot hc w mw_122 d_PM_count_68 ?_
          refine lv_if_eq (tgt := 78) hx hb d_PM_count_71 (by decide) (fun q71 => ?_) (fun q71 => ?_)
          · refine lv_iconst (v := 0) hx hb d_PM_count_78 (by decide) ?_
            exact xt_i hc w (Nat.le_of_ble_eq_true rfl) (Nat.le_of_ble_eq_true rfl) d_PM_count_79 (by rw [← e0, f_PM_count, if_neg q1, if_pos q7, if_neg q21_0, if_pos q21_1, if_pos q71] <;> rfl)
          · refine lv_iconst (v := 1) hx hb d_PM_count_74 (by decide) ?_
            refine lv_goto (tgt := 79) hx hb d_PM_count_75 (by decide) ?_
            exact xt_i hc w (Nat.le_of_ble_eq_true rfl) (Nat.le_of_ble_eq_true rfl) d_PM_count_79 (by rw [← e0, f_PM_count, if_neg q1, if_pos q7, if_neg q21_0, if_pos q21_1, if_neg q71] <;> rfl)
        · by_cases q21_2 : a1 = (16 : Int32)
          · refine lv_lookup (tgt := 80) (off := 59) hx hb d_PM_count_21 (by decide) (by rw [q21_2]; decide) (by decide) ?_
            refine lv_aload_n hx hb d_PM_count_80 rfl (lv_at hl 0 rfl) ?_
            refine g_PM_core hc w mw_242 d_PM_count_81 ?_
            refine g_CO_link hc w mw_117 d_PM_count_84 ?_
            exact xt_i hc w (Nat.le_of_ble_eq_true rfl) (Nat.le_of_ble_eq_true rfl) d_PM_count_87 (by rw [← e0, f_PM_count, if_neg q1, if_pos q7, if_neg q21_0, if_neg q21_1, if_pos q21_2] <;> rfl)
          · refine lv_lookup (tgt := 88) (off := 67) hx hb d_PM_count_21 (by decide) (by have k0 := ne_k q21_0 (n := 0) (by decide); have k1 := ne_k q21_1 (n := 15) (by decide); have k2 := ne_k q21_2 (n := 16) (by decide); simp [Op.lookupswitch.offset, k0, Ne.symm k0, k1, Ne.symm k1, k2, Ne.symm k2]) (by decide) ?_
            refine lv_aload_n hx hb d_PM_count_88 rfl (lv_at hl 0 rfl) ?_
            refine g_PM_processor hc w mw_243 d_PM_count_89 ?_
            refine lv_iload_n hx hb d_PM_count_92 rfl (lv_at hl 1 rfl) ?_
            refine lv_iconst (v := 1) hx hb d_PM_count_93 (by decide) ?_
            refine lv_isub hx hb d_PM_count_94 ?_
            refine rVI (rest := []) hc w (c_PR_faultsWith l E ad σ (a1 - (1 : Int32))) kv_PR_faultsWith mw_873 6 rfl rfl ⟨Nat.le_of_ble_eq_true rfl, Nat.le_of_ble_eq_true rfl⟩ hl.1 rfl (Nat.le_of_ble_eq_true rfl) ⟨Nat.le_of_ble_eq_true rfl, Nat.le_of_ble_eq_true rfl⟩ d_PM_count_95 (fun H locs w => ?_)
            exact xt_i hc w (Nat.le_of_ble_eq_true rfl) (Nat.le_of_ble_eq_true rfl) d_PM_count_98 (by rw [← e0, f_PM_count, if_neg q1, if_pos q7, if_neg q21_0, if_neg q21_1, if_neg q21_2] <;> rfl)
    · exact J10  _ w (lv_sub hl [] rfl) (by rw [← e0, f_PM_count, if_neg q1, if_neg q7])
