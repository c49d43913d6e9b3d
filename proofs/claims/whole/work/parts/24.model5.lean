-- MO_poke
def f_MO_poke_c4 (z13 : MS × Int32) (a1 : Int32) (a2 : Int32)  : MS × Int32 := (z13.1, z13.2)
def f_MO_poke_c3 (z29 : MS × Int32) (a1 : Int32) (a2 : Int32)  : MS × Int32 := (z29.1, z29.2)
def f_MO_poke_c2 (σ50 : MS) (a1 : Int32) (a2 : Int32) (u2_3 : Int32) : MS × Int32 := (σ50, u2_3)
def f_MO_poke_c1 (σ2 : MS) (a1 : Int32) (a2 : Int32)  : MS × Int32 := if (a1 - a1 / (4 : Int32) * (4 : Int32)) = 0 then (if (zb (f_MO_within σ2 a1 (0 : Int32) (262143 : Int32))) = 0 then (f_MO_poke_c3 (f_MO_fail σ2 (2 : Int32)) a1 a2 ) else (f_MO_poke_c2 (ms_memory σ2 (upd (m_memory σ2) (Int32.toNatClampNeg (a1 / (4 : Int32))) a2)) a1 a2 (m_memory σ2 (Int32.toNatClampNeg (a1 / (4 : Int32)))))) else (f_MO_poke_c4 (f_MO_fail σ2 (1 : Int32)) a1 a2 )
def f_MO_poke (σ : MS) (a1 : Int32) (a2 : Int32) : MS × Int32 := f_MO_poke_c1 (ms_thrown σ (0 : Int32)) a1 a2 
def P_MO_poke_c4 (z13 : MS × Int32) (a1 : Int32) (a2 : Int32)  : Prop := True
def P_MO_poke_c3 (z29 : MS × Int32) (a1 : Int32) (a2 : Int32)  : Prop := True
def P_MO_poke_c2 (σ50 : MS) (a1 : Int32) (a2 : Int32) (u2_3 : Int32) : Prop := True
def P_MO_poke_c1 (σ2 : MS) (a1 : Int32) (a2 : Int32)  : Prop := (((a1 - a1 / (4 : Int32) * (4 : Int32)) = 0) → ((((zb (f_MO_within σ2 a1 (0 : Int32) (262143 : Int32))) = 0) → (P_MO_poke_c3 (f_MO_fail σ2 (2 : Int32)) a1 a2 )) ∧ (¬ ((zb (f_MO_within σ2 a1 (0 : Int32) (262143 : Int32))) = 0) → (vp_in (a1 / (4 : Int32)) 65536 ∧ vp_in (a1 / (4 : Int32)) 65536 ∧ P_MO_poke_c2 (ms_memory σ2 (upd (m_memory σ2) (Int32.toNatClampNeg (a1 / (4 : Int32))) a2)) a1 a2 (m_memory σ2 (Int32.toNatClampNeg (a1 / (4 : Int32)))))))) ∧ (¬ ((a1 - a1 / (4 : Int32) * (4 : Int32)) = 0) → (P_MO_poke_c4 (f_MO_fail σ2 (1 : Int32)) a1 a2 ))
def P_MO_poke (σ : MS) (a1 : Int32) (a2 : Int32) : Prop := P_MO_poke_c1 (ms_thrown σ (0 : Int32)) a1 a2 
theorem d_MO_poke_0 : decode b_MO_poke 0 = .ok (.aload_n 0, 1) := by decide +kernel
theorem d_MO_poke_1 : decode b_MO_poke 1 = .ok (.iconst 0, 1) := by decide +kernel
theorem d_MO_poke_2 : decode b_MO_poke 2 = .ok (.putfield 48, 3) := by decide +kernel
theorem d_MO_poke_5 : decode b_MO_poke 5 = .ok (.iload_n 1, 1) := by decide +kernel
theorem d_MO_poke_6 : decode b_MO_poke 6 = .ok (.iconst 4, 1) := by decide +kernel
theorem d_MO_poke_7 : decode b_MO_poke 7 = .ok (.irem, 1) := by decide +kernel
theorem d_MO_poke_8 : decode b_MO_poke 8 = .ok (.ifCond .eq 9, 3) := by decide +kernel
theorem d_MO_poke_11 : decode b_MO_poke 11 = .ok (.aload_n 0, 1) := by decide +kernel
theorem d_MO_poke_12 : decode b_MO_poke 12 = .ok (.iconst 1, 1) := by decide +kernel
theorem d_MO_poke_13 : decode b_MO_poke 13 = .ok (.invokevirtual 51, 3) := by decide +kernel
theorem d_MO_poke_16 : decode b_MO_poke 16 = .ok (.ireturn, 1) := by decide +kernel
theorem d_MO_poke_17 : decode b_MO_poke 17 = .ok (.iload_n 1, 1) := by decide +kernel
theorem d_MO_poke_18 : decode b_MO_poke 18 = .ok (.iconst 0, 1) := by decide +kernel
theorem d_MO_poke_19 : decode b_MO_poke 19 = .ok (.ldc 55, 2) := by decide +kernel
theorem d_MO_poke_21 : decode b_MO_poke 21 = .ok (.invokestatic 56, 3) := by decide +kernel
theorem d_MO_poke_24 : decode b_MO_poke 24 = .ok (.ifCond .ne 9, 3) := by decide +kernel
theorem d_MO_poke_27 : decode b_MO_poke 27 = .ok (.aload_n 0, 1) := by decide +kernel
theorem d_MO_poke_28 : decode b_MO_poke 28 = .ok (.iconst 2, 1) := by decide +kernel
theorem d_MO_poke_29 : decode b_MO_poke 29 = .ok (.invokevirtual 51, 3) := by decide +kernel
theorem d_MO_poke_32 : decode b_MO_poke 32 = .ok (.ireturn, 1) := by decide +kernel
theorem d_MO_poke_33 : decode b_MO_poke 33 = .ok (.aload_n 0, 1) := by decide +kernel
theorem d_MO_poke_34 : decode b_MO_poke 34 = .ok (.getfield 8, 3) := by decide +kernel
theorem d_MO_poke_37 : decode b_MO_poke 37 = .ok (.iload_n 1, 1) := by decide +kernel
theorem d_MO_poke_38 : decode b_MO_poke 38 = .ok (.iconst 4, 1) := by decide +kernel
theorem d_MO_poke_39 : decode b_MO_poke 39 = .ok (.idiv, 1) := by decide +kernel
theorem d_MO_poke_40 : decode b_MO_poke 40 = .ok (.iaload, 1) := by decide +kernel
theorem d_MO_poke_41 : decode b_MO_poke 41 = .ok (.istore_n 3, 1) := by decide +kernel
theorem d_MO_poke_42 : decode b_MO_poke 42 = .ok (.aload_n 0, 1) := by decide +kernel
theorem d_MO_poke_43 : decode b_MO_poke 43 = .ok (.getfield 8, 3) := by decide +kernel
theorem d_MO_poke_46 : decode b_MO_poke 46 = .ok (.iload_n 1, 1) := by decide +kernel
theorem d_MO_poke_47 : decode b_MO_poke 47 = .ok (.iconst 4, 1) := by decide +kernel
theorem d_MO_poke_48 : decode b_MO_poke 48 = .ok (.idiv, 1) := by decide +kernel
theorem d_MO_poke_49 : decode b_MO_poke 49 = .ok (.iload_n 2, 1) := by decide +kernel
theorem d_MO_poke_50 : decode b_MO_poke 50 = .ok (.iastore, 1) := by decide +kernel
theorem d_MO_poke_51 : decode b_MO_poke 51 = .ok (.iload_n 3, 1) := by decide +kernel
theorem d_MO_poke_52 : decode b_MO_poke 52 = .ok (.ireturn, 1) := by decide +kernel
set_option maxHeartbeats 4000000 in
set_option maxRecDepth 100000 in
theorem c_MO_poke (l : Launch) (E : Ev) (ad : Nat → Nat) (σ : MS) (a1 : Int32) (a2 : Int32) (hp : P_MO_poke σ a1 a2) : rC xCl l E (mW E ad) y_MO_poke b_MO_poke 4 (Option.some Jvm.ClassFile.FieldType.int) (rmo 1 22) [.ref (ad 0), .int a1, .int a2] σ (zI (f_MO_poke σ a1 a2)) := by
  refine rC.of (by decide) (Nat.le_of_ble_eq_true rfl) ?_
  intro p e s m below meth c A ls hc w hl
  generalize e0 : zI (f_MO_poke σ a1 a2) = Z
  have hc : Cx xCl E A p s m ([.ref (ad 0), .int a1, .int a2] : List Value).toArray meth c b_MO_poke 4 (Option.some Jvm.ClassFile.FieldType.int) "PageMachineModel" := hc
  have hx := hc.1
  have hb := hc.2.1
  have ho := hc.2.2.2.2.2.1
  have hT := hc.2.2.2.2.2.2.1
  have hl : lv_has ls 4 [(0, .ref (ad 0)), (1, .int a1), (2, .int a2)] := hl
  unfold P_MO_poke at hp
  refine lv_aload_n hx hb d_MO_poke_0 rfl (lv_at hl 0 rfl) ?_
  refine lv_iconst (v := 0) hx hb d_MO_poke_1 (by decide) ?_
  refine p_MO_thrown hc w mw_886 d_MO_poke_2 (fun σ2 H locs hs2 w => ?_)
  rw [hs2] at hp
  unfold P_MO_poke_c1 at hp
  have e_c1 : zI (f_MO_poke_c1 σ2 a1 a2 ) = Z := by rw [← e0, f_MO_poke, hs2]
  refine lv_iload_n hx hb d_MO_poke_5 rfl (lv_at hl 1 rfl) ?_
  refine lv_iconst (v := 4) hx hb d_MO_poke_6 (by decide) ?_
  refine lv_irem hx hb d_MO_poke_7 (by decide) ?_
  refine lv_if_eq (tgt := 17) hx hb d_MO_poke_8 (by decide) (fun q8 => ?_) (fun q8 => ?_)
  · have hp := hp.1 q8
    refine lv_iload_n hx hb d_MO_poke_17 rfl (lv_at hl 1 rfl) ?_
    refine lv_iconst (v := 0) hx hb d_MO_poke_18 (by decide) ?_
    refine lv_ldc (v := 262143) hx hb ho (hT _ mw_975) d_MO_poke_19 ?_
    refine rSZ (rest := []) hc w (c_MO_within l E ad σ2 a1 (0 : Int32) (262143 : Int32)) ks_MO_within mw_976 ⟨Nat.le_of_ble_eq_true rfl, Nat.le_of_ble_eq_true rfl⟩ hl.1 rfl (Nat.le_of_ble_eq_true rfl) ⟨Nat.zero_le _, Nat.zero_le _⟩ d_MO_poke_21 (fun H locs w => ?_)
    refine lv_if_ne (tgt := 33) hx hb d_MO_poke_24 (by decide) (fun q24 => ?_) (fun q24 => ?_)
    · have hp := hp.2 q24
      refine lv_aload_n hx hb d_MO_poke_33 rfl (lv_at hl 0 rfl) ?_
      refine g_MO_memory hc w mw_887 d_MO_poke_34 ?_
      refine lv_iload_n hx hb d_MO_poke_37 rfl (lv_at hl 1 rfl) ?_
      refine lv_iconst (v := 4) hx hb d_MO_poke_38 (by decide) ?_
      refine lv_idiv hx hb d_MO_poke_39 (by decide) ?_
      obtain ⟨hb40, hp⟩ := hp
      refine a_MO_memory hc w hb40 d_MO_poke_40 ?_
      refine lv_istore_n (lv' := [(3, .int (m_memory σ2 (Int32.toNatClampNeg (a1 / (4 : Int32))))), (0, .ref (ad 0)), (1, .int a1), (2, .int a2)]) hx hb d_MO_poke_41 rfl hl (by decide) rfl (fun ls hl => ?_)
      refine lv_aload_n hx hb d_MO_poke_42 rfl (lv_at hl 1 rfl) ?_
      refine g_MO_memory hc w mw_887 d_MO_poke_43 ?_
      refine lv_iload_n hx hb d_MO_poke_46 rfl (lv_at hl 2 rfl) ?_
      refine lv_iconst (v := 4) hx hb d_MO_poke_47 (by decide) ?_
      refine lv_idiv hx hb d_MO_poke_48 (by decide) ?_
      refine lv_iload_n hx hb d_MO_poke_49 rfl (lv_at hl 3 rfl) ?_
      obtain ⟨hb50, hp⟩ := hp
      refine s_MO_memory hc w hb50 d_MO_poke_50 (fun σ50 H locs hs50 w => ?_)
      generalize hv_u2_3 : m_memory σ2 (Int32.toNatClampNeg (a1 / (4 : Int32))) = u2_3 at hl ⊢
      rw [hs50, hv_u2_3] at hp
      unfold P_MO_poke_c2 at hp
      have e_c2 : zI (f_MO_poke_c2 σ50 a1 a2 u2_3) = Z := by rw [← e_c1, f_MO_poke_c1, if_pos q8, if_neg q24, hs50, hv_u2_3]
      refine lv_iload_n hx hb d_MO_poke_51 rfl (lv_at hl 0 rfl) ?_
      exact rt_i hc w d_MO_poke_52 (by rw [← e_c2, f_MO_poke_c2] <;> rfl)
    · have hp := hp.1 q24
      refine lv_aload_n hx hb d_MO_poke_27 rfl (lv_at hl 0 rfl) ?_
      refine lv_iconst (v := 2) hx hb d_MO_poke_28 (by decide) ?_
      refine cVI (rest := []) hc w (c_MO_fail l E ad σ2 (2 : Int32)) kv_MO_fail mw_971 0 rfl rfl ⟨Nat.le_of_ble_eq_true rfl, Nat.le_of_ble_eq_true rfl⟩ hl.1 rfl (Nat.le_of_ble_eq_true rfl) ⟨Nat.zero_le _, Nat.zero_le _⟩ d_MO_poke_29 (fun z29 H locs hs29 w => ?_)
      rw [hs29] at hp
      unfold P_MO_poke_c3 at hp
      have e_c3 : zI (f_MO_poke_c3 z29 a1 a2 ) = Z := by rw [← e_c1, f_MO_poke_c1, if_pos q8, if_pos q24, hs29]
      exact rt_i hc w d_MO_poke_32 (by rw [← e_c3, f_MO_poke_c3] <;> rfl)
  · have hp := hp.2 q8
    refine lv_aload_n hx hb d_MO_poke_11 rfl (lv_at hl 0 rfl) ?_
    refine lv_iconst (v := 1) hx hb d_MO_poke_12 (by decide) ?_
    refine cVI (rest := []) hc w (c_MO_fail l E ad σ2 (1 : Int32)) kv_MO_fail mw_971 0 rfl rfl ⟨Nat.le_of_ble_eq_true rfl, Nat.le_of_ble_eq_true rfl⟩ hl.1 rfl (Nat.le_of_ble_eq_true rfl) ⟨Nat.zero_le _, Nat.zero_le _⟩ d_MO_poke_13 (fun z13 H locs hs13 w => ?_)
    rw [hs13] at hp
    unfold P_MO_poke_c4 at hp
    have e_c4 : zI (f_MO_poke_c4 z13 a1 a2 ) = Z := by rw [← e_c1, f_MO_poke_c1, if_neg q8, hs13]
    exact rt_i hc w d_MO_poke_16 (by rw [← e_c4, f_MO_poke_c4] <;> rfl)
-- MO_peek
def f_MO_peek_c3 (z13 : MS × Int32) (a1 : Int32)  : MS × Int32 := (z13.1, z13.2)
def f_MO_peek_c2 (z40 : MS × Int32) (a1 : Int32)  : MS × Int32 := (z40.1, z40.2)
def f_MO_peek_c1 (σ2 : MS) (a1 : Int32)  : MS × Int32 := if (a1 - a1 / (4 : Int32) * (4 : Int32)) = 0 then (if (zb (f_MO_within σ2 a1 (0 : Int32) (262143 : Int32))) = 0 then (f_MO_peek_c2 (f_MO_fail σ2 (2 : Int32)) a1 ) else ((σ2, m_memory σ2 (Int32.toNatClampNeg (a1 / (4 : Int32)))))) else (f_MO_peek_c3 (f_MO_fail σ2 (1 : Int32)) a1 )
def f_MO_peek (σ : MS) (a1 : Int32) : MS × Int32 := f_MO_peek_c1 (ms_thrown σ (0 : Int32)) a1 
def P_MO_peek_c3 (z13 : MS × Int32) (a1 : Int32)  : Prop := True
def P_MO_peek_c2 (z40 : MS × Int32) (a1 : Int32)  : Prop := True
def P_MO_peek_c1 (σ2 : MS) (a1 : Int32)  : Prop := (((a1 - a1 / (4 : Int32) * (4 : Int32)) = 0) → ((((zb (f_MO_within σ2 a1 (0 : Int32) (262143 : Int32))) = 0) → (P_MO_peek_c2 (f_MO_fail σ2 (2 : Int32)) a1 )) ∧ (¬ ((zb (f_MO_within σ2 a1 (0 : Int32) (262143 : Int32))) = 0) → (vp_in (a1 / (4 : Int32)) 65536 ∧ True)))) ∧ (¬ ((a1 - a1 / (4 : Int32) * (4 : Int32)) = 0) → (P_MO_peek_c3 (f_MO_fail σ2 (1 : Int32)) a1 ))
def P_MO_peek (σ : MS) (a1 : Int32) : Prop := P_MO_peek_c1 (ms_thrown σ (0 : Int32)) a1 
theorem d_MO_peek_0 : decode b_MO_peek 0 = .ok (.aload_n 0, 1) := by decide +kernel
theorem d_MO_peek_1 : decode b_MO_peek 1 = .ok (.iconst 0, 1) := by decide +kernel
theorem d_MO_peek_2 : decode b_MO_peek 2 = .ok (.putfield 48, 3) := by decide +kernel
theorem d_MO_peek_5 : decode b_MO_peek 5 = .ok (.iload_n 1, 1) := by decide +kernel
theorem d_MO_peek_6 : decode b_MO_peek 6 = .ok (.iconst 4, 1) := by decide +kernel
theorem d_MO_peek_7 : decode b_MO_peek 7 = .ok (.irem, 1) := by decide +kernel
theorem d_MO_peek_8 : decode b_MO_peek 8 = .ok (.ifCond .eq 9, 3) := by decide +kernel
theorem d_MO_peek_11 : decode b_MO_peek 11 = .ok (.aload_n 0, 1) := by decide +kernel
theorem d_MO_peek_12 : decode b_MO_peek 12 = .ok (.iconst 1, 1) := by decide +kernel
theorem d_MO_peek_13 : decode b_MO_peek 13 = .ok (.invokevirtual 51, 3) := by decide +kernel
theorem d_MO_peek_16 : decode b_MO_peek 16 = .ok (.ireturn, 1) := by decide +kernel
theorem d_MO_peek_17 : decode b_MO_peek 17 = .ok (.iload_n 1, 1) := by decide +kernel
theorem d_MO_peek_18 : decode b_MO_peek 18 = .ok (.iconst 0, 1) := by decide +kernel
theorem d_MO_peek_19 : decode b_MO_peek 19 = .ok (.ldc 55, 2) := by decide +kernel
theorem d_MO_peek_21 : decode b_MO_peek 21 = .ok (.invokestatic 56, 3) := by decide +kernel
theorem d_MO_peek_24 : decode b_MO_peek 24 = .ok (.ifCond .eq 14, 3) := by decide +kernel
theorem d_MO_peek_27 : decode b_MO_peek 27 = .ok (.aload_n 0, 1) := by decide +kernel
theorem d_MO_peek_28 : decode b_MO_peek 28 = .ok (.getfield 8, 3) := by decide +kernel
theorem d_MO_peek_31 : decode b_MO_peek 31 = .ok (.iload_n 1, 1) := by decide +kernel
theorem d_MO_peek_32 : decode b_MO_peek 32 = .ok (.iconst 4, 1) := by decide +kernel
theorem d_MO_peek_33 : decode b_MO_peek 33 = .ok (.idiv, 1) := by decide +kernel
theorem d_MO_peek_34 : decode b_MO_peek 34 = .ok (.iaload, 1) := by decide +kernel
theorem d_MO_peek_35 : decode b_MO_peek 35 = .ok (.goto 8, 3) := by decide +kernel
theorem d_MO_peek_38 : decode b_MO_peek 38 = .ok (.aload_n 0, 1) := by decide +kernel
theorem d_MO_peek_39 : decode b_MO_peek 39 = .ok (.iconst 2, 1) := by decide +kernel
theorem d_MO_peek_40 : decode b_MO_peek 40 = .ok (.invokevirtual 51, 3) := by decide +kernel
theorem d_MO_peek_43 : decode b_MO_peek 43 = .ok (.ireturn, 1) := by decide +kernel
set_option maxHeartbeats 4000000 in
set_option maxRecDepth 100000 in
theorem c_MO_peek (l : Launch) (E : Ev) (ad : Nat → Nat) (σ : MS) (a1 : Int32) (hp : P_MO_peek σ a1) : rC xCl l E (mW E ad) y_MO_peek b_MO_peek 2 (Option.some Jvm.ClassFile.FieldType.int) (rmo 1 22) [.ref (ad 0), .int a1] σ (zI (f_MO_peek σ a1)) := by
  refine rC.of (by decide) (Nat.le_of_ble_eq_true rfl) ?_
  intro p e s m below meth c A ls hc w hl
  generalize e0 : zI (f_MO_peek σ a1) = Z
  have hc : Cx xCl E A p s m ([.ref (ad 0), .int a1] : List Value).toArray meth c b_MO_peek 2 (Option.some Jvm.ClassFile.FieldType.int) "PageMachineModel" := hc
  have hx := hc.1
  have hb := hc.2.1
  have ho := hc.2.2.2.2.2.1
  have hT := hc.2.2.2.2.2.2.1
  have hl : lv_has ls 2 [(0, .ref (ad 0)), (1, .int a1)] := hl
  unfold P_MO_peek at hp
  refine lv_aload_n hx hb d_MO_peek_0 rfl (lv_at hl 0 rfl) ?_
  refine lv_iconst (v := 0) hx hb d_MO_peek_1 (by decide) ?_
  refine p_MO_thrown hc w mw_886 d_MO_peek_2 (fun σ2 H locs hs2 w => ?_)
  rw [hs2] at hp
  unfold P_MO_peek_c1 at hp
  have e_c1 : zI (f_MO_peek_c1 σ2 a1 ) = Z := by rw [← e0, f_MO_peek, hs2]
  refine lv_iload_n hx hb d_MO_peek_5 rfl (lv_at hl 1 rfl) ?_
  refine lv_iconst (v := 4) hx hb d_MO_peek_6 (by decide) ?_
  refine lv_irem hx hb d_MO_peek_7 (by decide) ?_
  refine lv_if_eq (tgt := 17) hx hb d_MO_peek_8 (by decide) (fun q8 => ?_) (fun q8 => ?_)
  · have hp := hp.1 q8
    refine lv_iload_n hx hb d_MO_peek_17 rfl (lv_at hl 1 rfl) ?_
    refine lv_iconst (v := 0) hx hb d_MO_peek_18 (by decide) ?_
    refine lv_ldc (v := 262143) hx hb ho (hT _ mw_975) d_MO_peek_19 ?_
    refine rSZ (rest := []) hc w (c_MO_within l E ad σ2 a1 (0 : Int32) (262143 : Int32)) ks_MO_within mw_976 ⟨Nat.le_of_ble_eq_true rfl, Nat.le_of_ble_eq_true rfl⟩ hl.1 rfl (Nat.le_of_ble_eq_true rfl) ⟨Nat.zero_le _, Nat.zero_le _⟩ d_MO_peek_21 (fun H locs w => ?_)
    refine lv_if_eq (tgt := 38) hx hb d_MO_peek_24 (by decide) (fun q24 => ?_) (fun q24 => ?_)
    · have hp := hp.1 q24
      refine lv_aload_n hx hb d_MO_peek_38 rfl (lv_at hl 0 rfl) ?_
      refine lv_iconst (v := 2) hx hb d_MO_peek_39 (by decide) ?_
      refine cVI (rest := []) hc w (c_MO_fail l E ad σ2 (2 : Int32)) kv_MO_fail mw_971 0 rfl rfl ⟨Nat.le_of_ble_eq_true rfl, Nat.le_of_ble_eq_true rfl⟩ hl.1 rfl (Nat.le_of_ble_eq_true rfl) ⟨Nat.zero_le _, Nat.zero_le _⟩ d_MO_peek_40 (fun z40 H locs hs40 w => ?_)
      rw [hs40] at hp
      unfold P_MO_peek_c2 at hp
      have e_c2 : zI (f_MO_peek_c2 z40 a1 ) = Z := by rw [← e_c1, f_MO_peek_c1, if_pos q8, if_pos q24, hs40]
      exact rt_i hc w d_MO_peek_43 (by rw [← e_c2, f_MO_peek_c2] <;> rfl)
    · have hp := hp.2 q24
      refine lv_aload_n hx hb d_MO_peek_27 rfl (lv_at hl 0 rfl) ?_
      refine g_MO_memory hc w mw_887 d_MO_peek_28 ?_
      refine lv_iload_n hx hb d_MO_peek_31 rfl (lv_at hl 1 rfl) ?_
      refine lv_iconst (v := 4) hx hb d_MO_peek_32 (by decide) ?_
      refine lv_idiv hx hb d_MO_peek_33 (by decide) ?_
      obtain ⟨hb34, hp⟩ := hp
      refine a_MO_memory hc w hb34 d_MO_peek_34 ?_
      refine lv_goto (tgt := 43) hx hb d_MO_peek_35 (by decide) ?_
      exact rt_i hc w d_MO_peek_43 (by rw [← e_c1, f_MO_peek_c1, if_pos q8, if_neg q24] <;> rfl)
  · have hp := hp.2 q8
    refine lv_aload_n hx hb d_MO_peek_11 rfl (lv_at hl 0 rfl) ?_
    refine lv_iconst (v := 1) hx hb d_MO_peek_12 (by decide) ?_
    refine cVI (rest := []) hc w (c_MO_fail l E ad σ2 (1 : Int32)) kv_MO_fail mw_971 0 rfl rfl ⟨Nat.le_of_ble_eq_true rfl, Nat.le_of_ble_eq_true rfl⟩ hl.1 rfl (Nat.le_of_ble_eq_true rfl) ⟨Nat.zero_le _, Nat.zero_le _⟩ d_MO_peek_13 (fun z13 H locs hs13 w => ?_)
    rw [hs13] at hp
    unfold P_MO_peek_c3 at hp
    have e_c3 : zI (f_MO_peek_c3 z13 a1 ) = Z := by rw [← e_c1, f_MO_peek_c1, if_neg q8, hs13]
    exact rt_i hc w d_MO_peek_16 (by rw [← e_c3, f_MO_peek_c3] <;> rfl)
-- MO_set
def f_MO_set_c8 (σ93 : MS) (a1 : Int32) (a2 : Int32) (a3 : Int32)  : MS := σ93
def f_MO_set_93 (σ93 : MS) (a1 : Int32) (a2 : Int32) (a3 : Int32) (w93_1 : Int32) : MS := f_MO_set_c8 (ms_lo σ93 w93_1) a1 a2 a3 
def f_MO_set_c7 (σ75 : MS) (a1 : Int32) (a2 : Int32) (a3 : Int32)  : MS := if a2 = (33 : Int32) then (f_MO_set_93 σ75 a1 a2 a3 a3) else (f_MO_set_93 σ75 a1 a2 a3 (m_lo σ75))
def f_MO_set_75 (σ75 : MS) (a1 : Int32) (a2 : Int32) (a3 : Int32) (w75_1 : Int32) : MS := f_MO_set_c7 (ms_hi σ75 w75_1) a1 a2 a3 
def f_MO_set_c6 (σ15 : MS) (a1 : Int32) (a2 : Int32) (a3 : Int32)  : MS := σ15
def f_MO_set_c5 (z29 : MS) (a1 : Int32) (a2 : Int32) (a3 : Int32)  : MS := z29
def f_MO_set_c4 (σ48 : MS) (a1 : Int32) (a2 : Int32) (a3 : Int32)  : MS := σ48
def f_MO_set_c3 (σ43 : MS) (a1 : Int32) (a2 : Int32) (a3 : Int32)  : MS := f_MO_set_c4 (ms_slot σ43 false) a1 a2 a3 
def f_MO_set_c2 (z102 : MS) (a1 : Int32) (a2 : Int32) (a3 : Int32)  : MS := z102
def f_MO_set_c1 (σ2 : MS) (a1 : Int32) (a2 : Int32) (a3 : Int32)  : MS := if (zb (f_MO_isRegister σ2 a1 a2)) = 0 then (f_MO_set_c6 (ms_thrown σ2 (1 : Int32)) a1 a2 a3 ) else (if a1 = (1 : Int32) then (f_MO_set_c5 (f_MO_write σ2 a2 a3) a1 a2 a3 ) else (if a2 = (34 : Int32) then (f_MO_set_c3 (ms_pc σ2 a3) a1 a2 a3 ) else (if a2 ≤ (31 : Int32) then (f_MO_set_c2 (f_MO_put σ2 a2 a3) a1 a2 a3 ) else (if a2 = (32 : Int32) then (f_MO_set_75 σ2 a1 a2 a3 a3) else (f_MO_set_75 σ2 a1 a2 a3 (m_hi σ2))))))
def f_MO_set (σ : MS) (a1 : Int32) (a2 : Int32) (a3 : Int32) : MS := f_MO_set_c1 (ms_thrown σ (0 : Int32)) a1 a2 a3 
def P_MO_set_c8 (σ93 : MS) (a1 : Int32) (a2 : Int32) (a3 : Int32)  : Prop := True
def P_MO_set_93 (σ93 : MS) (a1 : Int32) (a2 : Int32) (a3 : Int32) (w93_1 : Int32) : Prop := P_MO_set_c8 (ms_lo σ93 w93_1) a1 a2 a3 
def P_MO_set_c7 (σ75 : MS) (a1 : Int32) (a2 : Int32) (a3 : Int32)  : Prop := ((a2 = (33 : Int32)) → (P_MO_set_93 σ75 a1 a2 a3 a3)) ∧ (¬ (a2 = (33 : Int32)) → (P_MO_set_93 σ75 a1 a2 a3 (m_lo σ75)))
def P_MO_set_75 (σ75 : MS) (a1 : Int32) (a2 : Int32) (a3 : Int32) (w75_1 : Int32) : Prop := P_MO_set_c7 (ms_hi σ75 w75_1) a1 a2 a3 
def P_MO_set_c6 (σ15 : MS) (a1 : Int32) (a2 : Int32) (a3 : Int32)  : Prop := True
def P_MO_set_c5 (z29 : MS) (a1 : Int32) (a2 : Int32) (a3 : Int32)  : Prop := True
def P_MO_set_c4 (σ48 : MS) (a1 : Int32) (a2 : Int32) (a3 : Int32)  : Prop := True
def P_MO_set_c3 (σ43 : MS) (a1 : Int32) (a2 : Int32) (a3 : Int32)  : Prop := P_MO_set_c4 (ms_slot σ43 false) a1 a2 a3 
def P_MO_set_c2 (z102 : MS) (a1 : Int32) (a2 : Int32) (a3 : Int32)  : Prop := True
def P_MO_set_c1 (σ2 : MS) (a1 : Int32) (a2 : Int32) (a3 : Int32)  : Prop := (((zb (f_MO_isRegister σ2 a1 a2)) = 0) → (P_MO_set_c6 (ms_thrown σ2 (1 : Int32)) a1 a2 a3 )) ∧ (¬ ((zb (f_MO_isRegister σ2 a1 a2)) = 0) → (((a1 = (1 : Int32)) → (vp_in a2 32 ∧ P_MO_set_c5 (f_MO_write σ2 a2 a3) a1 a2 a3 )) ∧ (¬ (a1 = (1 : Int32)) → (((a2 = (34 : Int32)) → (P_MO_set_c3 (ms_pc σ2 a3) a1 a2 a3 )) ∧ (¬ (a2 = (34 : Int32)) → (((a2 ≤ (31 : Int32)) → (vp_in a2 32 ∧ P_MO_set_c2 (f_MO_put σ2 a2 a3) a1 a2 a3 )) ∧ (¬ (a2 ≤ (31 : Int32)) → (((a2 = (32 : Int32)) → (P_MO_set_75 σ2 a1 a2 a3 a3)) ∧ (¬ (a2 = (32 : Int32)) → (P_MO_set_75 σ2 a1 a2 a3 (m_hi σ2)))))))))))
def P_MO_set (σ : MS) (a1 : Int32) (a2 : Int32) (a3 : Int32) : Prop := P_MO_set_c1 (ms_thrown σ (0 : Int32)) a1 a2 a3 
theorem d_MO_set_0 : decode b_MO_set 0 = .ok (.aload_n 0, 1) := by decide +kernel
theorem d_MO_set_1 : decode b_MO_set 1 = .ok (.iconst 0, 1) := by decide +kernel
theorem d_MO_set_2 : decode b_MO_set 2 = .ok (.putfield 48, 3) := by decide +kernel
theorem d_MO_set_5 : decode b_MO_set 5 = .ok (.iload_n 1, 1) := by decide +kernel
theorem d_MO_set_6 : decode b_MO_set 6 = .ok (.iload_n 2, 1) := by decide +kernel
theorem d_MO_set_7 : decode b_MO_set 7 = .ok (.invokestatic 60, 3) := by decide +kernel
theorem d_MO_set_10 : decode b_MO_set 10 = .ok (.ifCond .ne 11, 3) := by decide +kernel
theorem d_MO_set_13 : decode b_MO_set 13 = .ok (.aload_n 0, 1) := by decide +kernel
theorem d_MO_set_14 : decode b_MO_set 14 = .ok (.iconst 1, 1) := by decide +kernel
theorem d_MO_set_15 : decode b_MO_set 15 = .ok (.putfield 48, 3) := by decide +kernel
theorem d_MO_set_18 : decode b_MO_set 18 = .ok (.goto 87, 3) := by decide +kernel
theorem d_MO_set_21 : decode b_MO_set 21 = .ok (.iload_n 1, 1) := by decide +kernel
theorem d_MO_set_22 : decode b_MO_set 22 = .ok (.iconst 1, 1) := by decide +kernel
theorem d_MO_set_23 : decode b_MO_set 23 = .ok (.if_icmp .ne 12, 3) := by decide +kernel
theorem d_MO_set_26 : decode b_MO_set 26 = .ok (.aload_n 0, 1) := by decide +kernel
theorem d_MO_set_27 : decode b_MO_set 27 = .ok (.iload_n 2, 1) := by decide +kernel
theorem d_MO_set_28 : decode b_MO_set 28 = .ok (.iload_n 3, 1) := by decide +kernel
theorem d_MO_set_29 : decode b_MO_set 29 = .ok (.invokevirtual 64, 3) := by decide +kernel
theorem d_MO_set_32 : decode b_MO_set 32 = .ok (.goto 73, 3) := by decide +kernel
theorem d_MO_set_35 : decode b_MO_set 35 = .ok (.iload_n 2, 1) := by decide +kernel
theorem d_MO_set_36 : decode b_MO_set 36 = .ok (.bipush 34, 2) := by decide +kernel
theorem d_MO_set_38 : decode b_MO_set 38 = .ok (.if_icmp .ne 16, 3) := by decide +kernel
theorem d_MO_set_41 : decode b_MO_set 41 = .ok (.aload_n 0, 1) := by decide +kernel
theorem d_MO_set_42 : decode b_MO_set 42 = .ok (.iload_n 3, 1) := by decide +kernel
theorem d_MO_set_43 : decode b_MO_set 43 = .ok (.putfield 40, 3) := by decide +kernel
theorem d_MO_set_46 : decode b_MO_set 46 = .ok (.aload_n 0, 1) := by decide +kernel
theorem d_MO_set_47 : decode b_MO_set 47 = .ok (.iconst 0, 1) := by decide +kernel
theorem d_MO_set_48 : decode b_MO_set 48 = .ok (.putfield 68, 3) := by decide +kernel
theorem d_MO_set_51 : decode b_MO_set 51 = .ok (.goto 54, 3) := by decide +kernel
theorem d_MO_set_54 : decode b_MO_set 54 = .ok (.iload_n 2, 1) := by decide +kernel
theorem d_MO_set_55 : decode b_MO_set 55 = .ok (.bipush 31, 2) := by decide +kernel
theorem d_MO_set_57 : decode b_MO_set 57 = .ok (.if_icmp .le 42, 3) := by decide +kernel
theorem d_MO_set_60 : decode b_MO_set 60 = .ok (.aload_n 0, 1) := by decide +kernel
theorem d_MO_set_61 : decode b_MO_set 61 = .ok (.iload_n 2, 1) := by decide +kernel
theorem d_MO_set_62 : decode b_MO_set 62 = .ok (.bipush 32, 2) := by decide +kernel
theorem d_MO_set_64 : decode b_MO_set 64 = .ok (.if_icmp .ne 7, 3) := by decide +kernel
theorem d_MO_set_67 : decode b_MO_set 67 = .ok (.iload_n 3, 1) := by decide +kernel
theorem d_MO_set_68 : decode b_MO_set 68 = .ok (.goto 7, 3) := by decide +kernel
theorem d_MO_set_71 : decode b_MO_set 71 = .ok (.aload_n 0, 1) := by decide +kernel
theorem d_MO_set_72 : decode b_MO_set 72 = .ok (.getfield 72, 3) := by decide +kernel
theorem d_MO_set_75 : decode b_MO_set 75 = .ok (.putfield 72, 3) := by decide +kernel
theorem d_MO_set_78 : decode b_MO_set 78 = .ok (.aload_n 0, 1) := by decide +kernel
theorem d_MO_set_79 : decode b_MO_set 79 = .ok (.iload_n 2, 1) := by decide +kernel
theorem d_MO_set_80 : decode b_MO_set 80 = .ok (.bipush 33, 2) := by decide +kernel
theorem d_MO_set_82 : decode b_MO_set 82 = .ok (.if_icmp .ne 7, 3) := by decide +kernel
theorem d_MO_set_85 : decode b_MO_set 85 = .ok (.iload_n 3, 1) := by decide +kernel
theorem d_MO_set_86 : decode b_MO_set 86 = .ok (.goto 7, 3) := by decide +kernel
theorem d_MO_set_89 : decode b_MO_set 89 = .ok (.aload_n 0, 1) := by decide +kernel
theorem d_MO_set_90 : decode b_MO_set 90 = .ok (.getfield 75, 3) := by decide +kernel
theorem d_MO_set_93 : decode b_MO_set 93 = .ok (.putfield 75, 3) := by decide +kernel
theorem d_MO_set_96 : decode b_MO_set 96 = .ok (.goto 9, 3) := by decide +kernel
theorem d_MO_set_99 : decode b_MO_set 99 = .ok (.aload_n 0, 1) := by decide +kernel
theorem d_MO_set_100 : decode b_MO_set 100 = .ok (.iload_n 2, 1) := by decide +kernel
theorem d_MO_set_101 : decode b_MO_set 101 = .ok (.iload_n 3, 1) := by decide +kernel
theorem d_MO_set_102 : decode b_MO_set 102 = .ok (.invokevirtual 78, 3) := by decide +kernel
theorem d_MO_set_105 : decode b_MO_set 105 = .ok (.return_, 1) := by decide +kernel
set_option maxHeartbeats 4000000 in
set_option maxRecDepth 100000 in
theorem c_MO_set (l : Launch) (E : Ev) (ad : Nat → Nat) (σ : MS) (a1 : Int32) (a2 : Int32) (a3 : Int32) (hp : P_MO_set σ a1 a2 a3) : rC xCl l E (mW E ad) y_MO_set b_MO_set 4 (Option.none : Option Jvm.ClassFile.FieldType) (rmo 2 43) [.ref (ad 0), .int a1, .int a2, .int a3] σ (zV (f_MO_set σ a1 a2 a3)) := by
  refine rC.of (by decide) (Nat.le_of_ble_eq_true rfl) ?_
  intro p e s m below meth c A ls hc w hl
  generalize e0 : zV (f_MO_set σ a1 a2 a3) = Z
  have hc : Cx xCl E A p s m ([.ref (ad 0), .int a1, .int a2, .int a3] : List Value).toArray meth c b_MO_set 4 (Option.none : Option Jvm.ClassFile.FieldType) "PageMachineModel" := hc
  have hx := hc.1
  have hb := hc.2.1
  have ho := hc.2.2.2.2.2.1
  have hT := hc.2.2.2.2.2.2.1
  have hl : lv_has ls 4 [(0, .ref (ad 0)), (1, .int a1), (2, .int a2), (3, .int a3)] := hl
  have J93 : ∀ (σ93 : MS) (w93_1 : Int32) (H : Heap) (locs : List Loc) (ls : Array Slot), Wd xCl E A s.heap H locs (mW E ad σ93) → lv_has ls 4 [] → zV (f_MO_set_93 σ93 a1 a2 a3 w93_1) = Z → P_MO_set_93 σ93 a1 a2 a3 w93_1 → W p l e (rmo 2 43) s m ([.ref (ad 0), .int a1, .int a2, .int a3] : List Value).toArray below meth c H locs 0 0 (MQ below (rQ xCl (mW E ad) E A Z) ([.ref (ad 0), .int a1, .int a2, .int a3] : List Value).toArray s 0 0 A) (F0 m 93 ls [.int w93_1, .ref (ad 0)]) := by
    intro σ93 w93_1 H locs ls w hl e93 hp
    unfold P_MO_set_93 at hp
    refine p_MO_lo hc w mw_890 d_MO_set_93 (fun σ93 H locs hs93 w => ?_)
    rw [hs93] at hp
    unfold P_MO_set_c8 at hp
    have e_c8 : zV (f_MO_set_c8 σ93 a1 a2 a3 ) = Z := by rw [← e93, f_MO_set_93, hs93]
    refine lv_goto (tgt := 105) hx hb d_MO_set_96 (by decide) ?_
    exact rt_v hc w d_MO_set_105 (by rw [← e_c8, f_MO_set_c8] <;> rfl)
  have J75 : ∀ (σ75 : MS) (w75_1 : Int32) (H : Heap) (locs : List Loc) (ls : Array Slot), Wd xCl E A s.heap H locs (mW E ad σ75) → lv_has ls 4 [(0, .ref (ad 0)), (2, .int a2), (3, .int a3)] → zV (f_MO_set_75 σ75 a1 a2 a3 w75_1) = Z → P_MO_set_75 σ75 a1 a2 a3 w75_1 → W p l e (rmo 2 43) s m ([.ref (ad 0), .int a1, .int a2, .int a3] : List Value).toArray below meth c H locs 0 0 (MQ below (rQ xCl (mW E ad) E A Z) ([.ref (ad 0), .int a1, .int a2, .int a3] : List Value).toArray s 0 0 A) (F0 m 75 ls [.int w75_1, .ref (ad 0)]) := by
    intro σ75 w75_1 H locs ls w hl e75 hp
    unfold P_MO_set_75 at hp
    refine p_MO_hi hc w mw_889 d_MO_set_75 (fun σ75 H locs hs75 w => ?_)
    rw [hs75] at hp
    unfold P_MO_set_c7 at hp
    have e_c7 : zV (f_MO_set_c7 σ75 a1 a2 a3 ) = Z := by rw [← e75, f_MO_set_75, hs75]
    refine lv_aload_n hx hb d_MO_set_78 rfl (lv_at hl 0 rfl) ?_
    refine lv_iload_n hx hb d_MO_set_79 rfl (lv_at hl 1 rfl) ?_
    refine lv_bipush (v := 33) hx hb d_MO_set_80 (by decide) ?_
    refine lv_icmp_ne (tgt := 89) hx hb d_MO_set_82 (by decide) (fun q82 => ?_) (fun q82 => ?_)
    · have hp := hp.2 q82
      refine lv_aload_n hx hb d_MO_set_89 rfl (lv_at hl 0 rfl) ?_
      refine g_MO_lo hc w mw_890 d_MO_set_90 ?_
      exact J93 σ75 (m_lo σ75) _ _ _ w (lv_sub hl [] rfl) (by rw [← e_c7, f_MO_set_c7, if_neg q82]) hp
    · have hp := hp.1 q82
      refine lv_iload_n hx hb d_MO_set_85 rfl (lv_at hl 2 rfl) ?_
      refine lv_goto (tgt := 93) hx hb d_MO_set_86 (by decide) ?_
      exact J93 σ75 a3 _ _ _ w (lv_sub hl [] rfl) (by rw [← e_c7, f_MO_set_c7, if_pos q82]) hp
  unfold P_MO_set at hp
  refine lv_aload_n hx hb d_MO_set_0 rfl (lv_at hl 0 rfl) ?_
  refine lv_iconst (v := 0) hx hb d_MO_set_1 (by decide) ?_
  refine p_MO_thrown hc w mw_886 d_MO_set_2 (fun σ2 H locs hs2 w => ?_)
  rw [hs2] at hp
  unfold P_MO_set_c1 at hp
  have e_c1 : zV (f_MO_set_c1 σ2 a1 a2 a3 ) = Z := by rw [← e0, f_MO_set, hs2]
  refine lv_iload_n hx hb d_MO_set_5 rfl (lv_at hl 1 rfl) ?_
  refine lv_iload_n hx hb d_MO_set_6 rfl (lv_at hl 2 rfl) ?_
  refine rSZ (rest := []) hc w (c_MO_isRegister l E ad σ2 a1 a2) ks_MO_isRegister mw_987 ⟨Nat.le_of_ble_eq_true rfl, Nat.le_of_ble_eq_true rfl⟩ hl.1 rfl (Nat.le_of_ble_eq_true rfl) ⟨Nat.zero_le _, Nat.zero_le _⟩ d_MO_set_7 (fun H locs w => ?_)
  refine lv_if_ne (tgt := 21) hx hb d_MO_set_10 (by decide) (fun q10 => ?_) (fun q10 => ?_)
  · have hp := hp.2 q10
    refine lv_iload_n hx hb d_MO_set_21 rfl (lv_at hl 1 rfl) ?_
    refine lv_iconst (v := 1) hx hb d_MO_set_22 (by decide) ?_
    refine lv_icmp_ne (tgt := 35) hx hb d_MO_set_23 (by decide) (fun q23 => ?_) (fun q23 => ?_)
    · have hp := hp.2 q23
      refine lv_iload_n hx hb d_MO_set_35 rfl (lv_at hl 2 rfl) ?_
      refine lv_bipush (v := 34) hx hb d_MO_set_36 (by decide) ?_
      refine lv_icmp_ne (tgt := 54) hx hb d_MO_set_38 (by decide) (fun q38 => ?_) (fun q38 => ?_)
      · have hp := hp.2 q38
        refine lv_iload_n hx hb d_MO_set_54 rfl (lv_at hl 2 rfl) ?_
        refine lv_bipush (v := 31) hx hb d_MO_set_55 (by decide) ?_
        refine lv_icmp_le (tgt := 99) hx hb d_MO_set_57 (by decide) (fun q57 => ?_) (fun q57 => ?_)
        · have hp := hp.1 q57
          refine lv_aload_n hx hb d_MO_set_99 rfl (lv_at hl 0 rfl) ?_
          refine lv_iload_n hx hb d_MO_set_100 rfl (lv_at hl 2 rfl) ?_
          refine lv_iload_n hx hb d_MO_set_101 rfl (lv_at hl 3 rfl) ?_
          obtain ⟨hb102, hp⟩ := hp
          refine cVV (rest := []) hc w (c_MO_put l E ad σ2 a2 a3 hb102) kv_MO_put mw_1000 0 rfl rfl ⟨Nat.le_of_ble_eq_true rfl, Nat.le_of_ble_eq_true rfl⟩ hl.1 rfl (Nat.le_of_ble_eq_true rfl) ⟨Nat.zero_le _, Nat.zero_le _⟩ d_MO_set_102 (fun z102 H locs hs102 w => ?_)
          rw [hs102] at hp
          unfold P_MO_set_c2 at hp
          have e_c2 : zV (f_MO_set_c2 z102 a1 a2 a3 ) = Z := by rw [← e_c1, f_MO_set_c1, if_neg q10, if_neg q23, if_neg q38, if_pos q57, hs102]
          exact rt_v hc w d_MO_set_105 (by rw [← e_c2, f_MO_set_c2] <;> rfl)
        · have hp := hp.2 q57
          refine lv_aload_n hx hb d_MO_set_60 rfl (lv_at hl 0 rfl) ?_
          refine lv_iload_n hx hb d_MO_set_61 rfl (lv_at hl 2 rfl) ?_
          refine lv_bipush (v := 32) hx hb d_MO_set_62 (by decide) ?_
          refine lv_icmp_ne (tgt := 71) hx hb d_MO_set_64 (by decide) (fun q64 => ?_) (fun q64 => ?_)
          · have hp := hp.2 q64
            refine lv_aload_n hx hb d_MO_set_71 rfl (lv_at hl 0 rfl) ?_
            refine g_MO_hi hc w mw_889 d_MO_set_72 ?_
            exact J75 σ2 (m_hi σ2) _ _ _ w (lv_sub hl [0, 2, 3] rfl) (by rw [← e_c1, f_MO_set_c1, if_neg q10, if_neg q23, if_neg q38, if_neg q57, if_neg q64]) hp
          · have hp := hp.1 q64
            refine lv_iload_n hx hb d_MO_set_67 rfl (lv_at hl 3 rfl) ?_
            refine lv_goto (tgt := 75) hx hb d_MO_set_68 (by decide) ?_
            exact J75 σ2 a3 _ _ _ w (lv_sub hl [0, 2, 3] rfl) (by rw [← e_c1, f_MO_set_c1, if_neg q10, if_neg q23, if_neg q38, if_neg q57, if_pos q64]) hp
      · have hp := hp.1 q38
        refine lv_aload_n hx hb d_MO_set_41 rfl (lv_at hl 0 rfl) ?_
        refine lv_iload_n hx hb d_MO_set_42 rfl (lv_at hl 3 rfl) ?_
        refine p_MO_pc hc w mw_891 d_MO_set_43 (fun σ43 H locs hs43 w => ?_)
        rw [hs43] at hp
        unfold P_MO_set_c3 at hp
        have e_c3 : zV (f_MO_set_c3 σ43 a1 a2 a3 ) = Z := by rw [← e_c1, f_MO_set_c1, if_neg q10, if_neg q23, if_pos q38, hs43]
        refine lv_aload_n hx hb d_MO_set_46 rfl (lv_at hl 0 rfl) ?_
        refine lv_iconst (v := 0) hx hb d_MO_set_47 (by decide) ?_
        refine p_MO_slot (v := false) hc w mw_894 d_MO_set_48 (fun σ48 H locs hs48 w => ?_)
        rw [hs48] at hp
        unfold P_MO_set_c4 at hp
        have e_c4 : zV (f_MO_set_c4 σ48 a1 a2 a3 ) = Z := by rw [← e_c3, f_MO_set_c3, hs48]
        refine lv_goto (tgt := 105) hx hb d_MO_set_51 (by decide) ?_
        exact rt_v hc w d_MO_set_105 (by rw [← e_c4, f_MO_set_c4] <;> rfl)
    · have hp := hp.1 q23
      refine lv_aload_n hx hb d_MO_set_26 rfl (lv_at hl 0 rfl) ?_
      refine lv_iload_n hx hb d_MO_set_27 rfl (lv_at hl 2 rfl) ?_
      refine lv_iload_n hx hb d_MO_set_28 rfl (lv_at hl 3 rfl) ?_
      obtain ⟨hb29, hp⟩ := hp
      refine cVV (rest := []) hc w (c_MO_write l E ad σ2 a2 a3 hb29) kv_MO_write mw_990 0 rfl rfl ⟨Nat.le_of_ble_eq_true rfl, Nat.le_of_ble_eq_true rfl⟩ hl.1 rfl (Nat.le_of_ble_eq_true rfl) ⟨Nat.zero_le _, Nat.zero_le _⟩ d_MO_set_29 (fun z29 H locs hs29 w => ?_)
      rw [hs29] at hp
      unfold P_MO_set_c5 at hp
      have e_c5 : zV (f_MO_set_c5 z29 a1 a2 a3 ) = Z := by rw [← e_c1, f_MO_set_c1, if_neg q10, if_pos q23, hs29]
      refine lv_goto (tgt := 105) hx hb d_MO_set_32 (by decide) ?_
      exact rt_v hc w d_MO_set_105 (by rw [← e_c5, f_MO_set_c5] <;> rfl)
  · have hp := hp.1 q10
    refine lv_aload_n hx hb d_MO_set_13 rfl (lv_at hl 0 rfl) ?_
    refine lv_iconst (v := 1) hx hb d_MO_set_14 (by decide) ?_
    refine p_MO_thrown hc w mw_886 d_MO_set_15 (fun σ15 H locs hs15 w => ?_)
    rw [hs15] at hp
    unfold P_MO_set_c6 at hp
    have e_c6 : zV (f_MO_set_c6 σ15 a1 a2 a3 ) = Z := by rw [← e_c1, f_MO_set_c1, if_pos q10, hs15]
    refine lv_goto (tgt := 105) hx hb d_MO_set_18 (by decide) ?_
    exact rt_v hc w d_MO_set_105 (by rw [← e_c6, f_MO_set_c6] <;> rfl)
-- MO_get
def f_MO_get_c2 (z15 : MS × Int32) (a1 : Int32) (a2 : Int32)  : MS × Int32 := (z15.1, z15.2)
def f_MO_get_c1 (σ2 : MS) (a1 : Int32) (a2 : Int32)  : MS × Int32 := if (zb (f_MO_isRegister σ2 a1 a2)) = 0 then (f_MO_get_c2 (f_MO_fail σ2 (1 : Int32)) a1 a2 ) else (if a1 = (1 : Int32) then ((σ2, f_MO_read σ2 a2)) else (if a2 = (34 : Int32) then ((σ2, m_pc σ2)) else (if a2 = (33 : Int32) then ((σ2, m_lo σ2)) else (if a2 = (32 : Int32) then ((σ2, m_hi σ2)) else ((σ2, m_r σ2 (Int32.toNatClampNeg a2)))))))
def f_MO_get (σ : MS) (a1 : Int32) (a2 : Int32) : MS × Int32 := f_MO_get_c1 (ms_thrown σ (0 : Int32)) a1 a2 
def P_MO_get_c2 (z15 : MS × Int32) (a1 : Int32) (a2 : Int32)  : Prop := True
def P_MO_get_c1 (σ2 : MS) (a1 : Int32) (a2 : Int32)  : Prop := (((zb (f_MO_isRegister σ2 a1 a2)) = 0) → (P_MO_get_c2 (f_MO_fail σ2 (1 : Int32)) a1 a2 )) ∧ (¬ ((zb (f_MO_isRegister σ2 a1 a2)) = 0) → (((a1 = (1 : Int32)) → (vp_in a2 32 ∧ True)) ∧ (¬ (a1 = (1 : Int32)) → (((a2 = (34 : Int32)) → (True)) ∧ (¬ (a2 = (34 : Int32)) → (((a2 = (33 : Int32)) → (True)) ∧ (¬ (a2 = (33 : Int32)) → (((a2 = (32 : Int32)) → (True)) ∧ (¬ (a2 = (32 : Int32)) → (vp_in a2 32 ∧ True))))))))))
def P_MO_get (σ : MS) (a1 : Int32) (a2 : Int32) : Prop := P_MO_get_c1 (ms_thrown σ (0 : Int32)) a1 a2 
theorem d_MO_get_0 : decode b_MO_get 0 = .ok (.aload_n 0, 1) := by decide +kernel
theorem d_MO_get_1 : decode b_MO_get 1 = .ok (.iconst 0, 1) := by decide +kernel
theorem d_MO_get_2 : decode b_MO_get 2 = .ok (.putfield 48, 3) := by decide +kernel
theorem d_MO_get_5 : decode b_MO_get 5 = .ok (.iload_n 1, 1) := by decide +kernel
theorem d_MO_get_6 : decode b_MO_get 6 = .ok (.iload_n 2, 1) := by decide +kernel
theorem d_MO_get_7 : decode b_MO_get 7 = .ok (.invokestatic 60, 3) := by decide +kernel
theorem d_MO_get_10 : decode b_MO_get 10 = .ok (.ifCond .ne 9, 3) := by decide +kernel
theorem d_MO_get_13 : decode b_MO_get 13 = .ok (.aload_n 0, 1) := by decide +kernel
theorem d_MO_get_14 : decode b_MO_get 14 = .ok (.iconst 1, 1) := by decide +kernel
theorem d_MO_get_15 : decode b_MO_get 15 = .ok (.invokevirtual 51, 3) := by decide +kernel
theorem d_MO_get_18 : decode b_MO_get 18 = .ok (.ireturn, 1) := by decide +kernel
theorem d_MO_get_19 : decode b_MO_get 19 = .ok (.iload_n 1, 1) := by decide +kernel
theorem d_MO_get_20 : decode b_MO_get 20 = .ok (.iconst 1, 1) := by decide +kernel
theorem d_MO_get_21 : decode b_MO_get 21 = .ok (.if_icmp .ne 9, 3) := by decide +kernel
theorem d_MO_get_24 : decode b_MO_get 24 = .ok (.aload_n 0, 1) := by decide +kernel
theorem d_MO_get_25 : decode b_MO_get 25 = .ok (.iload_n 2, 1) := by decide +kernel
theorem d_MO_get_26 : decode b_MO_get 26 = .ok (.invokevirtual 81, 3) := by decide +kernel
theorem d_MO_get_29 : decode b_MO_get 29 = .ok (.ireturn, 1) := by decide +kernel
theorem d_MO_get_30 : decode b_MO_get 30 = .ok (.iload_n 2, 1) := by decide +kernel
theorem d_MO_get_31 : decode b_MO_get 31 = .ok (.bipush 34, 2) := by decide +kernel
theorem d_MO_get_33 : decode b_MO_get 33 = .ok (.if_icmp .ne 10, 3) := by decide +kernel
theorem d_MO_get_36 : decode b_MO_get 36 = .ok (.aload_n 0, 1) := by decide +kernel
theorem d_MO_get_37 : decode b_MO_get 37 = .ok (.getfield 40, 3) := by decide +kernel
theorem d_MO_get_40 : decode b_MO_get 40 = .ok (.goto 35, 3) := by decide +kernel
theorem d_MO_get_43 : decode b_MO_get 43 = .ok (.iload_n 2, 1) := by decide +kernel
theorem d_MO_get_44 : decode b_MO_get 44 = .ok (.bipush 33, 2) := by decide +kernel
theorem d_MO_get_46 : decode b_MO_get 46 = .ok (.if_icmp .ne 10, 3) := by decide +kernel
theorem d_MO_get_49 : decode b_MO_get 49 = .ok (.aload_n 0, 1) := by decide +kernel
theorem d_MO_get_50 : decode b_MO_get 50 = .ok (.getfield 75, 3) := by decide +kernel
theorem d_MO_get_53 : decode b_MO_get 53 = .ok (.goto 22, 3) := by decide +kernel
theorem d_MO_get_56 : decode b_MO_get 56 = .ok (.iload_n 2, 1) := by decide +kernel
theorem d_MO_get_57 : decode b_MO_get 57 = .ok (.bipush 32, 2) := by decide +kernel
theorem d_MO_get_59 : decode b_MO_get 59 = .ok (.if_icmp .ne 10, 3) := by decide +kernel
theorem d_MO_get_62 : decode b_MO_get 62 = .ok (.aload_n 0, 1) := by decide +kernel
theorem d_MO_get_63 : decode b_MO_get 63 = .ok (.getfield 72, 3) := by decide +kernel
theorem d_MO_get_66 : decode b_MO_get 66 = .ok (.goto 9, 3) := by decide +kernel
theorem d_MO_get_69 : decode b_MO_get 69 = .ok (.aload_n 0, 1) := by decide +kernel
theorem d_MO_get_70 : decode b_MO_get 70 = .ok (.getfield 14, 3) := by decide +kernel
theorem d_MO_get_73 : decode b_MO_get 73 = .ok (.iload_n 2, 1) := by decide +kernel
theorem d_MO_get_74 : decode b_MO_get 74 = .ok (.iaload, 1) := by decide +kernel
theorem d_MO_get_75 : decode b_MO_get 75 = .ok (.ireturn, 1) := by decide +kernel
set_option maxHeartbeats 4000000 in
set_option maxRecDepth 100000 in
theorem c_MO_get (l : Launch) (E : Ev) (ad : Nat → Nat) (σ : MS) (a1 : Int32) (a2 : Int32) (hp : P_MO_get σ a1 a2) : rC xCl l E (mW E ad) y_MO_get b_MO_get 3 (Option.some Jvm.ClassFile.FieldType.int) (rmo 2 43) [.ref (ad 0), .int a1, .int a2] σ (zI (f_MO_get σ a1 a2)) := by
  refine rC.of (by decide) (Nat.le_of_ble_eq_true rfl) ?_
  intro p e s m below meth c A ls hc w hl
  generalize e0 : zI (f_MO_get σ a1 a2) = Z
  have hc : Cx xCl E A p s m ([.ref (ad 0), .int a1, .int a2] : List Value).toArray meth c b_MO_get 3 (Option.some Jvm.ClassFile.FieldType.int) "PageMachineModel" := hc
  have hx := hc.1
  have hb := hc.2.1
  have ho := hc.2.2.2.2.2.1
  have hT := hc.2.2.2.2.2.2.1
  have hl : lv_has ls 3 [(0, .ref (ad 0)), (1, .int a1), (2, .int a2)] := hl
  unfold P_MO_get at hp
  refine lv_aload_n hx hb d_MO_get_0 rfl (lv_at hl 0 rfl) ?_
  refine lv_iconst (v := 0) hx hb d_MO_get_1 (by decide) ?_
  refine p_MO_thrown hc w mw_886 d_MO_get_2 (fun σ2 H locs hs2 w => ?_)
  rw [hs2] at hp
  unfold P_MO_get_c1 at hp
  have e_c1 : zI (f_MO_get_c1 σ2 a1 a2 ) = Z := by rw [← e0, f_MO_get, hs2]
  refine lv_iload_n hx hb d_MO_get_5 rfl (lv_at hl 1 rfl) ?_
  refine lv_iload_n hx hb d_MO_get_6 rfl (lv_at hl 2 rfl) ?_
  refine rSZ (rest := []) hc w (c_MO_isRegister l E ad σ2 a1 a2) ks_MO_isRegister mw_987 ⟨Nat.le_of_ble_eq_true rfl, Nat.le_of_ble_eq_true rfl⟩ hl.1 rfl (Nat.le_of_ble_eq_true rfl) ⟨Nat.zero_le _, Nat.zero_le _⟩ d_MO_get_7 (fun H locs w => ?_)
  refine lv_if_ne (tgt := 19) hx hb d_MO_get_10 (by decide) (fun q10 => ?_) (fun q10 => ?_)
  · have hp := hp.2 q10
    refine lv_iload_n hx hb d_MO_get_19 rfl (lv_at hl 1 rfl) ?_
    refine lv_iconst (v := 1) hx hb d_MO_get_20 (by decide) ?_
    refine lv_icmp_ne (tgt := 30) hx hb d_MO_get_21 (by decide) (fun q21 => ?_) (fun q21 => ?_)
    · have hp := hp.2 q21
      refine lv_iload_n hx hb d_MO_get_30 rfl (lv_at hl 2 rfl) ?_
      refine lv_bipush (v := 34) hx hb d_MO_get_31 (by decide) ?_
      refine lv_icmp_ne (tgt := 43) hx hb d_MO_get_33 (by decide) (fun q33 => ?_) (fun q33 => ?_)
      · have hp := hp.2 q33
        refine lv_iload_n hx hb d_MO_get_43 rfl (lv_at hl 2 rfl) ?_
        refine lv_bipush (v := 33) hx hb d_MO_get_44 (by decide) ?_
        refine lv_icmp_ne (tgt := 56) hx hb d_MO_get_46 (by decide) (fun q46 => ?_) (fun q46 => ?_)
        · have hp := hp.2 q46
          refine lv_iload_n hx hb d_MO_get_56 rfl (lv_at hl 2 rfl) ?_
          refine lv_bipush (v := 32) hx hb d_MO_get_57 (by decide) ?_
          refine lv_icmp_ne (tgt := 69) hx hb d_MO_get_59 (by decide) (fun q59 => ?_) (fun q59 => ?_)
          · have hp := hp.2 q59
            refine lv_aload_n hx hb d_MO_get_69 rfl (lv_at hl 0 rfl) ?_
            refine g_MO_r hc w mw_888 d_MO_get_70 ?_
            refine lv_iload_n hx hb d_MO_get_73 rfl (lv_at hl 2 rfl) ?_
            obtain ⟨hb74, hp⟩ := hp
            refine a_MO_r hc w hb74 d_MO_get_74 ?_
            exact rt_i hc w d_MO_get_75 (by rw [← e_c1, f_MO_get_c1, if_neg q10, if_neg q21, if_neg q33, if_neg q46, if_neg q59] <;> rfl)
          · have hp := hp.1 q59
            refine lv_aload_n hx hb d_MO_get_62 rfl (lv_at hl 0 rfl) ?_
            refine g_MO_hi hc w mw_889 d_MO_get_63 ?_
            refine lv_goto (tgt := 75) hx hb d_MO_get_66 (by decide) ?_
            exact rt_i hc w d_MO_get_75 (by rw [← e_c1, f_MO_get_c1, if_neg q10, if_neg q21, if_neg q33, if_neg q46, if_pos q59] <;> rfl)
        · have hp := hp.1 q46
          refine lv_aload_n hx hb d_MO_get_49 rfl (lv_at hl 0 rfl) ?_
          refine g_MO_lo hc w mw_890 d_MO_get_50 ?_
          refine lv_goto (tgt := 75) hx hb d_MO_get_53 (by decide) ?_
          exact rt_i hc w d_MO_get_75 (by rw [← e_c1, f_MO_get_c1, if_neg q10, if_neg q21, if_neg q33, if_pos q46] <;> rfl)
      · have hp := hp.1 q33
        refine lv_aload_n hx hb d_MO_get_36 rfl (lv_at hl 0 rfl) ?_
        refine g_MO_pc hc w mw_891 d_MO_get_37 ?_
        refine lv_goto (tgt := 75) hx hb d_MO_get_40 (by decide) ?_
        exact rt_i hc w d_MO_get_75 (by rw [← e_c1, f_MO_get_c1, if_neg q10, if_neg q21, if_pos q33] <;> rfl)
    · have hp := hp.1 q21
      refine lv_aload_n hx hb d_MO_get_24 rfl (lv_at hl 0 rfl) ?_
      refine lv_iload_n hx hb d_MO_get_25 rfl (lv_at hl 2 rfl) ?_
      obtain ⟨hb26, hp⟩ := hp
      refine rVI (rest := []) hc w (c_MO_read l E ad σ2 a2 hb26) kv_MO_read mw_1008 0 rfl rfl ⟨Nat.le_of_ble_eq_true rfl, Nat.le_of_ble_eq_true rfl⟩ hl.1 rfl (Nat.le_of_ble_eq_true rfl) ⟨Nat.zero_le _, Nat.zero_le _⟩ d_MO_get_26 (fun H locs w => ?_)
      exact rt_i hc w d_MO_get_29 (by rw [← e_c1, f_MO_get_c1, if_neg q10, if_pos q21] <;> rfl)
  · have hp := hp.1 q10
    refine lv_aload_n hx hb d_MO_get_13 rfl (lv_at hl 0 rfl) ?_
    refine lv_iconst (v := 1) hx hb d_MO_get_14 (by decide) ?_
    refine cVI (rest := []) hc w (c_MO_fail l E ad σ2 (1 : Int32)) kv_MO_fail mw_971 0 rfl rfl ⟨Nat.le_of_ble_eq_true rfl, Nat.le_of_ble_eq_true rfl⟩ hl.1 rfl (Nat.le_of_ble_eq_true rfl) ⟨Nat.zero_le _, Nat.zero_le _⟩ d_MO_get_15 (fun z15 H locs hs15 w => ?_)
    rw [hs15] at hp
    unfold P_MO_get_c2 at hp
    have e_c2 : zI (f_MO_get_c2 z15 a1 a2 ) = Z := by rw [← e_c1, f_MO_get_c1, if_pos q10, hs15]
    exact rt_i hc w d_MO_get_18 (by rw [← e_c2, f_MO_get_c2] <;> rfl)
-- MO_line
def f_MO_line_c3 (z16 : MS × Int32) (a1 : Int32) (a2 : Bool)  : MS × Bool := if z16.2 ≤ 0 then ((z16.1, false)) else ((z16.1, true))
def f_MO_line_c2 (σ41 : MS) (a1 : Int32) (a2 : Bool) (u2_3 : Bool) : MS × Bool := (σ41, u2_3)
def f_MO_line_c1 (σ2 : MS) (a1 : Int32) (a2 : Bool)  : MS × Bool := if (zb (f_MO_within σ2 a1 (0 : Int32) (5 : Int32))) = 0 then (f_MO_line_c3 (f_MO_fail σ2 (1 : Int32)) a1 a2 ) else (f_MO_line_c2 (ms_lines σ2 (updB (m_lines σ2) (Int32.toNatClampNeg a1) a2)) a1 a2 (m_lines σ2 (Int32.toNatClampNeg a1)))
def f_MO_line (σ : MS) (a1 : Int32) (a2 : Bool) : MS × Bool := f_MO_line_c1 (ms_thrown σ (0 : Int32)) a1 a2 
def P_MO_line_c3 (z16 : MS × Int32) (a1 : Int32) (a2 : Bool)  : Prop := ((z16.2 ≤ 0) → (True)) ∧ (¬ (z16.2 ≤ 0) → (True))
def P_MO_line_c2 (σ41 : MS) (a1 : Int32) (a2 : Bool) (u2_3 : Bool) : Prop := True
def P_MO_line_c1 (σ2 : MS) (a1 : Int32) (a2 : Bool)  : Prop := (((zb (f_MO_within σ2 a1 (0 : Int32) (5 : Int32))) = 0) → (P_MO_line_c3 (f_MO_fail σ2 (1 : Int32)) a1 a2 )) ∧ (¬ ((zb (f_MO_within σ2 a1 (0 : Int32) (5 : Int32))) = 0) → (vp_in a1 6 ∧ vp_in a1 6 ∧ P_MO_line_c2 (ms_lines σ2 (updB (m_lines σ2) (Int32.toNatClampNeg a1) a2)) a1 a2 (m_lines σ2 (Int32.toNatClampNeg a1))))
def P_MO_line (σ : MS) (a1 : Int32) (a2 : Bool) : Prop := P_MO_line_c1 (ms_thrown σ (0 : Int32)) a1 a2 
theorem d_MO_line_0 : decode b_MO_line 0 = .ok (.aload_n 0, 1) := by decide +kernel
theorem d_MO_line_1 : decode b_MO_line 1 = .ok (.iconst 0, 1) := by decide +kernel
theorem d_MO_line_2 : decode b_MO_line 2 = .ok (.putfield 48, 3) := by decide +kernel
theorem d_MO_line_5 : decode b_MO_line 5 = .ok (.iload_n 1, 1) := by decide +kernel
theorem d_MO_line_6 : decode b_MO_line 6 = .ok (.iconst 0, 1) := by decide +kernel
theorem d_MO_line_7 : decode b_MO_line 7 = .ok (.iconst 5, 1) := by decide +kernel
theorem d_MO_line_8 : decode b_MO_line 8 = .ok (.invokestatic 56, 3) := by decide +kernel
theorem d_MO_line_11 : decode b_MO_line 11 = .ok (.ifCond .ne 17, 3) := by decide +kernel
theorem d_MO_line_14 : decode b_MO_line 14 = .ok (.aload_n 0, 1) := by decide +kernel
theorem d_MO_line_15 : decode b_MO_line 15 = .ok (.iconst 1, 1) := by decide +kernel
theorem d_MO_line_16 : decode b_MO_line 16 = .ok (.invokevirtual 51, 3) := by decide +kernel
theorem d_MO_line_19 : decode b_MO_line 19 = .ok (.ifCond .le 7, 3) := by decide +kernel
theorem d_MO_line_22 : decode b_MO_line 22 = .ok (.iconst 1, 1) := by decide +kernel
theorem d_MO_line_23 : decode b_MO_line 23 = .ok (.goto 4, 3) := by decide +kernel
theorem d_MO_line_26 : decode b_MO_line 26 = .ok (.iconst 0, 1) := by decide +kernel
theorem d_MO_line_27 : decode b_MO_line 27 = .ok (.ireturn, 1) := by decide +kernel
theorem d_MO_line_28 : decode b_MO_line 28 = .ok (.aload_n 0, 1) := by decide +kernel
theorem d_MO_line_29 : decode b_MO_line 29 = .ok (.getfield 20, 3) := by decide +kernel
theorem d_MO_line_32 : decode b_MO_line 32 = .ok (.iload_n 1, 1) := by decide +kernel
theorem d_MO_line_33 : decode b_MO_line 33 = .ok (.baload, 1) := by decide +kernel
theorem d_MO_line_34 : decode b_MO_line 34 = .ok (.istore_n 3, 1) := by decide +kernel
theorem d_MO_line_35 : decode b_MO_line 35 = .ok (.aload_n 0, 1) := by decide +kernel
theorem d_MO_line_36 : decode b_MO_line 36 = .ok (.getfield 20, 3) := by decide +kernel
theorem d_MO_line_39 : decode b_MO_line 39 = .ok (.iload_n 1, 1) := by decide +kernel
theorem d_MO_line_40 : decode b_MO_line 40 = .ok (.iload_n 2, 1) := by decide +kernel
theorem d_MO_line_41 : decode b_MO_line 41 = .ok (.bastore, 1) := by decide +kernel
theorem d_MO_line_42 : decode b_MO_line 42 = .ok (.iload_n 3, 1) := by decide +kernel
theorem d_MO_line_43 : decode b_MO_line 43 = .ok (.ireturn, 1) := by decide +kernel
set_option maxHeartbeats 4000000 in
set_option maxRecDepth 100000 in
theorem c_MO_line (l : Launch) (E : Ev) (ad : Nat → Nat) (σ : MS) (a1 : Int32) (a2 : Bool) (hp : P_MO_line σ a1 a2) : rC xCl l E (mW E ad) y_MO_line b_MO_line 4 (Option.some Jvm.ClassFile.FieldType.boolean) (rmo 1 22) [.ref (ad 0), .int a1, .int (zb a2)] σ (zZ (f_MO_line σ a1 a2)) := by
  refine rC.of (by decide) (Nat.le_of_ble_eq_true rfl) ?_
  intro p e s m below meth c A ls hc w hl
  generalize e0 : zZ (f_MO_line σ a1 a2) = Z
  have hc : Cx xCl E A p s m ([.ref (ad 0), .int a1, .int (zb a2)] : List Value).toArray meth c b_MO_line 4 (Option.some Jvm.ClassFile.FieldType.boolean) "PageMachineModel" := hc
  have hx := hc.1
  have hb := hc.2.1
  have ho := hc.2.2.2.2.2.1
  have hT := hc.2.2.2.2.2.2.1
  have hl : lv_has ls 4 [(0, .ref (ad 0)), (1, .int a1), (2, .int (zb a2))] := hl
  unfold P_MO_line at hp
  refine lv_aload_n hx hb d_MO_line_0 rfl (lv_at hl 0 rfl) ?_
  refine lv_iconst (v := 0) hx hb d_MO_line_1 (by decide) ?_
  refine p_MO_thrown hc w mw_886 d_MO_line_2 (fun σ2 H locs hs2 w => ?_)
  rw [hs2] at hp
  unfold P_MO_line_c1 at hp
  have e_c1 : zZ (f_MO_line_c1 σ2 a1 a2 ) = Z := by rw [← e0, f_MO_line, hs2]
  refine lv_iload_n hx hb d_MO_line_5 rfl (lv_at hl 1 rfl) ?_
  refine lv_iconst (v := 0) hx hb d_MO_line_6 (by decide) ?_
  refine lv_iconst (v := 5) hx hb d_MO_line_7 (by decide) ?_
  refine rSZ (rest := []) hc w (c_MO_within l E ad σ2 a1 (0 : Int32) (5 : Int32)) ks_MO_within mw_976 ⟨Nat.le_of_ble_eq_true rfl, Nat.le_of_ble_eq_true rfl⟩ hl.1 rfl (Nat.le_of_ble_eq_true rfl) ⟨Nat.zero_le _, Nat.zero_le _⟩ d_MO_line_8 (fun H locs w => ?_)
  refine lv_if_ne (tgt := 28) hx hb d_MO_line_11 (by decide) (fun q11 => ?_) (fun q11 => ?_)
  · have hp := hp.2 q11
    refine lv_aload_n hx hb d_MO_line_28 rfl (lv_at hl 0 rfl) ?_
    refine g_MO_lines hc w mw_897 d_MO_line_29 ?_
    refine lv_iload_n hx hb d_MO_line_32 rfl (lv_at hl 1 rfl) ?_
    obtain ⟨hb33, hp⟩ := hp
    refine a_MO_lines hc w hb33 d_MO_line_33 ?_
    refine lv_istore_n (lv' := [(3, .int (zb (m_lines σ2 (Int32.toNatClampNeg a1)))), (0, .ref (ad 0)), (1, .int a1), (2, .int (zb a2))]) hx hb d_MO_line_34 rfl hl (by decide) rfl (fun ls hl => ?_)
    refine lv_aload_n hx hb d_MO_line_35 rfl (lv_at hl 1 rfl) ?_
    refine g_MO_lines hc w mw_897 d_MO_line_36 ?_
    refine lv_iload_n hx hb d_MO_line_39 rfl (lv_at hl 2 rfl) ?_
    refine lv_iload_n hx hb d_MO_line_40 rfl (lv_at hl 3 rfl) ?_
    obtain ⟨hb41, hp⟩ := hp
    refine s_MO_lines (v := a2) hc w hb41 d_MO_line_41 (fun σ41 H locs hs41 w => ?_)
    generalize hv_u2_3 : m_lines σ2 (Int32.toNatClampNeg a1) = u2_3 at hl ⊢
    rw [hs41, hv_u2_3] at hp
    unfold P_MO_line_c2 at hp
    have e_c2 : zZ (f_MO_line_c2 σ41 a1 a2 u2_3) = Z := by rw [← e_c1, f_MO_line_c1, if_neg q11, hs41, hv_u2_3]
    refine lv_iload_n hx hb d_MO_line_42 rfl (lv_at hl 0 rfl) ?_
    exact rt_z (v := u2_3) hc w d_MO_line_43 rfl (by rw [← e_c2, f_MO_line_c2] <;> rfl)
  · have hp := hp.1 q11
    refine lv_aload_n hx hb d_MO_line_14 rfl (lv_at hl 0 rfl) ?_
    refine lv_iconst (v := 1) hx hb d_MO_line_15 (by decide) ?_
    refine cVI (rest := []) hc w (c_MO_fail l E ad σ2 (1 : Int32)) kv_MO_fail mw_971 0 rfl rfl ⟨Nat.le_of_ble_eq_true rfl, Nat.le_of_ble_eq_true rfl⟩ hl.1 rfl (Nat.le_of_ble_eq_true rfl) ⟨Nat.zero_le _, Nat.zero_le _⟩ d_MO_line_16 (fun z16 H locs hs16 w => ?_)
    rw [hs16] at hp
    unfold P_MO_line_c3 at hp
    have e_c3 : zZ (f_MO_line_c3 z16 a1 a2 ) = Z := by rw [← e_c1, f_MO_line_c1, if_pos q11, hs16]
    refine lv_if_le (tgt := 26) hx hb d_MO_line_19 (by decide) (fun q19 => ?_) (fun q19 => ?_)
    · have hp := hp.1 q19
      refine lv_iconst (v := 0) hx hb d_MO_line_26 (by decide) ?_
      exact rt_z (v := false) hc w d_MO_line_27 rfl (by rw [← e_c3, f_MO_line_c3, if_pos q19] <;> rfl)
    · have hp := hp.2 q19
      refine lv_iconst (v := 1) hx hb d_MO_line_22 (by decide) ?_
      refine lv_goto (tgt := 27) hx hb d_MO_line_23 (by decide) ?_
      exact rt_z (v := true) hc w d_MO_line_27 rfl (by rw [← e_c3, f_MO_line_c3, if_neg q19] <;> rfl)
-- MO_entry
def f_MO_entry_c2 (z26 : MS × Int32) (a1 : Int32) (a2 : Int32)  : MS × Int32 := (z26.1, z26.2)
def f_MO_entry_24 (σ24 : MS) (a1 : Int32) (a2 : Int32) : MS × Int32 := f_MO_entry_c2 (f_MO_fail σ24 (1 : Int32)) a1 a2 
def f_MO_entry_c1 (σ2 : MS) (a1 : Int32) (a2 : Int32)  : MS × Int32 := if (zb (f_MO_within σ2 a1 (0 : Int32) (31 : Int32))) = 0 then (f_MO_entry_24 σ2 a1 a2) else (if (zb (f_MO_within σ2 a2 (0 : Int32) (4 : Int32))) = 0 then (f_MO_entry_24 σ2 a1 a2) else (if a2 = 0 then ((σ2, m_pages σ2 (Int32.toNatClampNeg a1))) else (if a2 = (1 : Int32) then ((σ2, m_spaces σ2 (Int32.toNatClampNeg a1))) else (if a2 = (2 : Int32) then (if (zb (m_all σ2 (Int32.toNatClampNeg a1))) = 0 then ((σ2, (0 : Int32))) else ((σ2, (1 : Int32)))) else ((σ2, m_halves σ2 (Int32.toNatClampNeg ((((2 : Int32) * a1) + a2) - (3 : Int32)))))))))
def f_MO_entry (σ : MS) (a1 : Int32) (a2 : Int32) : MS × Int32 := f_MO_entry_c1 (ms_thrown σ (0 : Int32)) a1 a2 
def P_MO_entry_c2 (z26 : MS × Int32) (a1 : Int32) (a2 : Int32)  : Prop := True
def P_MO_entry_24 (σ24 : MS) (a1 : Int32) (a2 : Int32) : Prop := P_MO_entry_c2 (f_MO_fail σ24 (1 : Int32)) a1 a2 
def P_MO_entry_c1 (σ2 : MS) (a1 : Int32) (a2 : Int32)  : Prop := (((zb (f_MO_within σ2 a1 (0 : Int32) (31 : Int32))) = 0) → (P_MO_entry_24 σ2 a1 a2)) ∧ (¬ ((zb (f_MO_within σ2 a1 (0 : Int32) (31 : Int32))) = 0) → ((((zb (f_MO_within σ2 a2 (0 : Int32) (4 : Int32))) = 0) → (P_MO_entry_24 σ2 a1 a2)) ∧ (¬ ((zb (f_MO_within σ2 a2 (0 : Int32) (4 : Int32))) = 0) → (((a2 = 0) → (vp_in a1 32 ∧ True)) ∧ (¬ (a2 = 0) → (((a2 = (1 : Int32)) → (vp_in a1 32 ∧ True)) ∧ (¬ (a2 = (1 : Int32)) → (((a2 = (2 : Int32)) → (vp_in a1 32 ∧ (((zb (m_all σ2 (Int32.toNatClampNeg a1))) = 0) → (True)) ∧ (¬ ((zb (m_all σ2 (Int32.toNatClampNeg a1))) = 0) → (True)))) ∧ (¬ (a2 = (2 : Int32)) → (vp_in ((((2 : Int32) * a1) + a2) - (3 : Int32)) 64 ∧ True))))))))))
def P_MO_entry (σ : MS) (a1 : Int32) (a2 : Int32) : Prop := P_MO_entry_c1 (ms_thrown σ (0 : Int32)) a1 a2 
theorem d_MO_entry_0 : decode b_MO_entry 0 = .ok (.aload_n 0, 1) := by decide +kernel
theorem d_MO_entry_1 : decode b_MO_entry 1 = .ok (.iconst 0, 1) := by decide +kernel
theorem d_MO_entry_2 : decode b_MO_entry 2 = .ok (.putfield 48, 3) := by decide +kernel
theorem d_MO_entry_5 : decode b_MO_entry 5 = .ok (.iload_n 1, 1) := by decide +kernel
theorem d_MO_entry_6 : decode b_MO_entry 6 = .ok (.iconst 0, 1) := by decide +kernel
theorem d_MO_entry_7 : decode b_MO_entry 7 = .ok (.bipush 31, 2) := by decide +kernel
theorem d_MO_entry_9 : decode b_MO_entry 9 = .ok (.invokestatic 56, 3) := by decide +kernel
theorem d_MO_entry_12 : decode b_MO_entry 12 = .ok (.ifCond .eq 12, 3) := by decide +kernel
theorem d_MO_entry_15 : decode b_MO_entry 15 = .ok (.iload_n 2, 1) := by decide +kernel
theorem d_MO_entry_16 : decode b_MO_entry 16 = .ok (.iconst 0, 1) := by decide +kernel
theorem d_MO_entry_17 : decode b_MO_entry 17 = .ok (.iconst 4, 1) := by decide +kernel
theorem d_MO_entry_18 : decode b_MO_entry 18 = .ok (.invokestatic 56, 3) := by decide +kernel
theorem d_MO_entry_21 : decode b_MO_entry 21 = .ok (.ifCond .ne 9, 3) := by decide +kernel
theorem d_MO_entry_24 : decode b_MO_entry 24 = .ok (.aload_n 0, 1) := by decide +kernel
theorem d_MO_entry_25 : decode b_MO_entry 25 = .ok (.iconst 1, 1) := by decide +kernel
theorem d_MO_entry_26 : decode b_MO_entry 26 = .ok (.invokevirtual 51, 3) := by decide +kernel
theorem d_MO_entry_29 : decode b_MO_entry 29 = .ok (.ireturn, 1) := by decide +kernel
theorem d_MO_entry_30 : decode b_MO_entry 30 = .ok (.iload_n 2, 1) := by decide +kernel
theorem d_MO_entry_31 : decode b_MO_entry 31 = .ok (.ifCond .ne 12, 3) := by decide +kernel
theorem d_MO_entry_34 : decode b_MO_entry 34 = .ok (.aload_n 0, 1) := by decide +kernel
theorem d_MO_entry_35 : decode b_MO_entry 35 = .ok (.getfield 24, 3) := by decide +kernel
theorem d_MO_entry_38 : decode b_MO_entry 38 = .ok (.iload_n 1, 1) := by decide +kernel
theorem d_MO_entry_39 : decode b_MO_entry 39 = .ok (.iaload, 1) := by decide +kernel
theorem d_MO_entry_40 : decode b_MO_entry 40 = .ok (.goto 51, 3) := by decide +kernel
theorem d_MO_entry_43 : decode b_MO_entry 43 = .ok (.iload_n 2, 1) := by decide +kernel
theorem d_MO_entry_44 : decode b_MO_entry 44 = .ok (.iconst 1, 1) := by decide +kernel
theorem d_MO_entry_45 : decode b_MO_entry 45 = .ok (.if_icmp .ne 12, 3) := by decide +kernel
theorem d_MO_entry_48 : decode b_MO_entry 48 = .ok (.aload_n 0, 1) := by decide +kernel
theorem d_MO_entry_49 : decode b_MO_entry 49 = .ok (.getfield 27, 3) := by decide +kernel
theorem d_MO_entry_52 : decode b_MO_entry 52 = .ok (.iload_n 1, 1) := by decide +kernel
theorem d_MO_entry_53 : decode b_MO_entry 53 = .ok (.iaload, 1) := by decide +kernel
theorem d_MO_entry_54 : decode b_MO_entry 54 = .ok (.goto 37, 3) := by decide +kernel
theorem d_MO_entry_57 : decode b_MO_entry 57 = .ok (.iload_n 2, 1) := by decide +kernel
theorem d_MO_entry_58 : decode b_MO_entry 58 = .ok (.iconst 2, 1) := by decide +kernel
theorem d_MO_entry_59 : decode b_MO_entry 59 = .ok (.if_icmp .ne 20, 3) := by decide +kernel
theorem d_MO_entry_62 : decode b_MO_entry 62 = .ok (.aload_n 0, 1) := by decide +kernel
theorem d_MO_entry_63 : decode b_MO_entry 63 = .ok (.getfield 30, 3) := by decide +kernel
theorem d_MO_entry_66 : decode b_MO_entry 66 = .ok (.iload_n 1, 1) := by decide +kernel
theorem d_MO_entry_67 : decode b_MO_entry 67 = .ok (.baload, 1) := by decide +kernel
theorem d_MO_entry_68 : decode b_MO_entry 68 = .ok (.ifCond .eq 7, 3) := by decide +kernel
theorem d_MO_entry_71 : decode b_MO_entry 71 = .ok (.iconst 1, 1) := by decide +kernel
theorem d_MO_entry_72 : decode b_MO_entry 72 = .ok (.goto 19, 3) := by decide +kernel
theorem d_MO_entry_75 : decode b_MO_entry 75 = .ok (.iconst 0, 1) := by decide +kernel
theorem d_MO_entry_76 : decode b_MO_entry 76 = .ok (.goto 15, 3) := by decide +kernel
theorem d_MO_entry_79 : decode b_MO_entry 79 = .ok (.aload_n 0, 1) := by decide +kernel
theorem d_MO_entry_80 : decode b_MO_entry 80 = .ok (.getfield 33, 3) := by decide +kernel
theorem d_MO_entry_83 : decode b_MO_entry 83 = .ok (.iconst 2, 1) := by decide +kernel
theorem d_MO_entry_84 : decode b_MO_entry 84 = .ok (.iload_n 1, 1) := by decide +kernel
theorem d_MO_entry_85 : decode b_MO_entry 85 = .ok (.imul, 1) := by decide +kernel
theorem d_MO_entry_86 : decode b_MO_entry 86 = .ok (.iload_n 2, 1) := by decide +kernel
theorem d_MO_entry_87 : decode b_MO_entry 87 = .ok (.iadd, 1) := by decide +kernel
theorem d_MO_entry_88 : decode b_MO_entry 88 = .ok (.iconst 3, 1) := by decide +kernel
theorem d_MO_entry_89 : decode b_MO_entry 89 = .ok (.isub, 1) := by decide +kernel
theorem d_MO_entry_90 : decode b_MO_entry 90 = .ok (.iaload, 1) := by decide +kernel
theorem d_MO_entry_91 : decode b_MO_entry 91 = .ok (.ireturn, 1) := by decide +kernel
set_option maxHeartbeats 4000000 in
set_option maxRecDepth 100000 in
theorem c_MO_entry (l : Launch) (E : Ev) (ad : Nat → Nat) (σ : MS) (a1 : Int32) (a2 : Int32) (hp : P_MO_entry σ a1 a2) : rC xCl l E (mW E ad) y_MO_entry b_MO_entry 3 (Option.some Jvm.ClassFile.FieldType.int) (rmo 1 22) [.ref (ad 0), .int a1, .int a2] σ (zI (f_MO_entry σ a1 a2)) := by
  refine rC.of (by decide) (Nat.le_of_ble_eq_true rfl) ?_
  intro p e s m below meth c A ls hc w hl
  generalize e0 : zI (f_MO_entry σ a1 a2) = Z
  have hc : Cx xCl E A p s m ([.ref (ad 0), .int a1, .int a2] : List Value).toArray meth c b_MO_entry 3 (Option.some Jvm.ClassFile.FieldType.int) "PageMachineModel" := hc
  have hx := hc.1
  have hb := hc.2.1
  have ho := hc.2.2.2.2.2.1
  have hT := hc.2.2.2.2.2.2.1
  have hl : lv_has ls 3 [(0, .ref (ad 0)), (1, .int a1), (2, .int a2)] := hl
  have J24 : ∀ (σ24 : MS) (H : Heap) (locs : List Loc) (ls : Array Slot), Wd xCl E A s.heap H locs (mW E ad σ24) → lv_has ls 3 [(0, .ref (ad 0))] → zI (f_MO_entry_24 σ24 a1 a2) = Z → P_MO_entry_24 σ24 a1 a2 → W p l e (rmo 1 22) s m ([.ref (ad 0), .int a1, .int a2] : List Value).toArray below meth c H locs 0 0 (MQ below (rQ xCl (mW E ad) E A Z) ([.ref (ad 0), .int a1, .int a2] : List Value).toArray s 0 0 A) (F0 m 24 ls []) := by
    intro σ24 H locs ls w hl e24 hp
    unfold P_MO_entry_24 at hp
    refine lv_aload_n hx hb d_MO_entry_24 rfl (lv_at hl 0 rfl) ?_
    refine lv_iconst (v := 1) hx hb d_MO_entry_25 (by decide) ?_
    refine cVI (rest := []) hc w (c_MO_fail l E ad σ24 (1 : Int32)) kv_MO_fail mw_971 0 rfl rfl ⟨Nat.le_of_ble_eq_true rfl, Nat.le_of_ble_eq_true rfl⟩ hl.1 rfl (Nat.le_of_ble_eq_true rfl) ⟨Nat.zero_le _, Nat.zero_le _⟩ d_MO_entry_26 (fun z26 H locs hs26 w => ?_)
    rw [hs26] at hp
    unfold P_MO_entry_c2 at hp
    have e_c2 : zI (f_MO_entry_c2 z26 a1 a2 ) = Z := by rw [← e24, f_MO_entry_24, hs26]
    exact rt_i hc w d_MO_entry_29 (by rw [← e_c2, f_MO_entry_c2] <;> rfl)
  unfold P_MO_entry at hp
  refine lv_aload_n hx hb d_MO_entry_0 rfl (lv_at hl 0 rfl) ?_
  refine lv_iconst (v := 0) hx hb d_MO_entry_1 (by decide) ?_
  refine p_MO_thrown hc w mw_886 d_MO_entry_2 (fun σ2 H locs hs2 w => ?_)
  rw [hs2] at hp
  unfold P_MO_entry_c1 at hp
  have e_c1 : zI (f_MO_entry_c1 σ2 a1 a2 ) = Z := by rw [← e0, f_MO_entry, hs2]
  refine lv_iload_n hx hb d_MO_entry_5 rfl (lv_at hl 1 rfl) ?_
  refine lv_iconst (v := 0) hx hb d_MO_entry_6 (by decide) ?_
  refine lv_bipush (v := 31) hx hb d_MO_entry_7 (by decide) ?_
  refine rSZ (rest := []) hc w (c_MO_within l E ad σ2 a1 (0 : Int32) (31 : Int32)) ks_MO_within mw_976 ⟨Nat.le_of_ble_eq_true rfl, Nat.le_of_ble_eq_true rfl⟩ hl.1 rfl (Nat.le_of_ble_eq_true rfl) ⟨Nat.zero_le _, Nat.zero_le _⟩ d_MO_entry_9 (fun H locs w => ?_)
  refine lv_if_eq (tgt := 24) hx hb d_MO_entry_12 (by decide) (fun q12 => ?_) (fun q12 => ?_)
  · have hp := hp.1 q12
    exact J24 σ2 _ _ _ w (lv_sub hl [0] rfl) (by rw [← e_c1, f_MO_entry_c1, if_pos q12]) hp
  · have hp := hp.2 q12
    refine lv_iload_n hx hb d_MO_entry_15 rfl (lv_at hl 2 rfl) ?_
    refine lv_iconst (v := 0) hx hb d_MO_entry_16 (by decide) ?_
    refine lv_iconst (v := 4) hx hb d_MO_entry_17 (by decide) ?_
    refine rSZ (rest := []) hc w (c_MO_within l E ad σ2 a2 (0 : Int32) (4 : Int32)) ks_MO_within mw_976 ⟨Nat.le_of_ble_eq_true rfl, Nat.le_of_ble_eq_true rfl⟩ hl.1 rfl (Nat.le_of_ble_eq_true rfl) ⟨Nat.zero_le _, Nat.zero_le _⟩ d_MO_entry_18 (fun H locs w => ?_)
    refine lv_if_ne (tgt := 30) hx hb d_MO_entry_21 (by decide) (fun q21 => ?_) (fun q21 => ?_)
    · have hp := hp.2 q21
      refine lv_iload_n hx hb d_MO_entry_30 rfl (lv_at hl 2 rfl) ?_
      refine lv_if_ne (tgt := 43) hx hb d_MO_entry_31 (by decide) (fun q31 => ?_) (fun q31 => ?_)
      · have hp := hp.2 q31
        refine lv_iload_n hx hb d_MO_entry_43 rfl (lv_at hl 2 rfl) ?_
        refine lv_iconst (v := 1) hx hb d_MO_entry_44 (by decide) ?_
        refine lv_icmp_ne (tgt := 57) hx hb d_MO_entry_45 (by decide) (fun q45 => ?_) (fun q45 => ?_)
        · have hp := hp.2 q45
          refine lv_iload_n hx hb d_MO_entry_57 rfl (lv_at hl 2 rfl) ?_
          refine lv_iconst (v := 2) hx hb d_MO_entry_58 (by decide) ?_
          refine lv_icmp_ne (tgt := 79) hx hb d_MO_entry_59 (by decide) (fun q59 => ?_) (fun q59 => ?_)
          · have hp := hp.2 q59
            refine lv_aload_n hx hb d_MO_entry_79 rfl (lv_at hl 0 rfl) ?_
            refine g_MO_halves hc w mw_901 d_MO_entry_80 ?_
            refine lv_iconst (v := 2) hx hb d_MO_entry_83 (by decide) ?_
            refine lv_iload_n hx hb d_MO_entry_84 rfl (lv_at hl 1 rfl) ?_
            refine lv_imul hx hb d_MO_entry_85 ?_
            refine lv_iload_n hx hb d_MO_entry_86 rfl (lv_at hl 2 rfl) ?_
            refine lv_iadd hx hb d_MO_entry_87 ?_
            refine lv_iconst (v := 3) hx hb d_MO_entry_88 (by decide) ?_
            refine lv_isub hx hb d_MO_entry_89 ?_
            obtain ⟨hb90, hp⟩ := hp
            refine a_MO_halves hc w hb90 d_MO_entry_90 ?_
            exact rt_i hc w d_MO_entry_91 (by rw [← e_c1, f_MO_entry_c1, if_neg q12, if_neg q21, if_neg q31, if_neg q45, if_neg q59] <;> rfl)
          · have hp := hp.1 q59
            refine lv_aload_n hx hb d_MO_entry_62 rfl (lv_at hl 0 rfl) ?_
            refine g_MO_all hc w mw_900 d_MO_entry_63 ?_
            refine lv_iload_n hx hb d_MO_entry_66 rfl (lv_at hl 1 rfl) ?_
            obtain ⟨hb67, hp⟩ := hp
            refine a_MO_all hc w hb67 d_MO_entry_67 ?_
            refine lv_if_eq (tgt := 75) hx hb d_MO_entry_68 (by decide) (fun q68 => ?_) (fun q68 => ?_)
            · have hp := hp.1 q68
              refine lv_iconst (v := 0) hx hb d_MO_entry_75 (by decide) ?_
              refine lv_goto (tgt := 91) hx hb d_MO_entry_76 (by decide) ?_
              exact rt_i hc w d_MO_entry_91 (by rw [← e_c1, f_MO_entry_c1, if_neg q12, if_neg q21, if_neg q31, if_neg q45, if_pos q59, if_pos q68] <;> rfl)
            · have hp := hp.2 q68
              refine lv_iconst (v := 1) hx hb d_MO_entry_71 (by decide) ?_
              refine lv_goto (tgt := 91) hx hb d_MO_entry_72 (by decide) ?_
              exact rt_i hc w d_MO_entry_91 (by rw [← e_c1, f_MO_entry_c1, if_neg q12, if_neg q21, if_neg q31, if_neg q45, if_pos q59, if_neg q68] <;> rfl)
        · have hp := hp.1 q45
          refine lv_aload_n hx hb d_MO_entry_48 rfl (lv_at hl 0 rfl) ?_
          refine g_MO_spaces hc w mw_899 d_MO_entry_49 ?_
          refine lv_iload_n hx hb d_MO_entry_52 rfl (lv_at hl 1 rfl) ?_
          obtain ⟨hb53, hp⟩ := hp
          refine a_MO_spaces hc w hb53 d_MO_entry_53 ?_
          refine lv_goto (tgt := 91) hx hb d_MO_entry_54 (by decide) ?_
          exact rt_i hc w d_MO_entry_91 (by rw [← e_c1, f_MO_entry_c1, if_neg q12, if_neg q21, if_neg q31, if_pos q45] <;> rfl)
      · have hp := hp.1 q31
        refine lv_aload_n hx hb d_MO_entry_34 rfl (lv_at hl 0 rfl) ?_
        refine g_MO_pages hc w mw_898 d_MO_entry_35 ?_
        refine lv_iload_n hx hb d_MO_entry_38 rfl (lv_at hl 1 rfl) ?_
        obtain ⟨hb39, hp⟩ := hp
        refine a_MO_pages hc w hb39 d_MO_entry_39 ?_
        refine lv_goto (tgt := 91) hx hb d_MO_entry_40 (by decide) ?_
        exact rt_i hc w d_MO_entry_91 (by rw [← e_c1, f_MO_entry_c1, if_neg q12, if_neg q21, if_pos q31] <;> rfl)
    · have hp := hp.1 q21
      exact J24 σ2 _ _ _ w (lv_sub hl [0] rfl) (by rw [← e_c1, f_MO_entry_c1, if_neg q12, if_pos q21]) hp
-- MO_translate
def f_MO_translate_c5 (z44 : MS × Int64) (a1 : Int32) (a2 : Int32)  : MS × Int64 := if 0 ≤ (m_fault z44.1) then (if (zb (m_refills z44.1)) = 0 then ((z44.1, (-1 : Int64) - (Int32.toInt64 (m_fault z44.1)))) else ((z44.1, (-101 : Int64) - (Int32.toInt64 (m_fault z44.1))))) else ((z44.1, z44.2))
def f_MO_translate_43 (σ43 : MS) (a1 : Int32) (a2 : Int32) (w43_2 : Bool) : MS × Int64 := f_MO_translate_c5 (f_MO_physical σ43 a1 w43_2 false) a1 a2 
def f_MO_translate_c4 (z16 : MS × Int32) (a1 : Int32) (a2 : Int32)  : MS × Int64 := (z16.1, Int32.toInt64 z16.2)
def f_MO_translate_c3 (σ28 : MS) (a1 : Int32) (a2 : Int32)  : MS × Int64 := if a2 = (1 : Int32) then (f_MO_translate_43 σ28 a1 a2 true) else (f_MO_translate_43 σ28 a1 a2 false)
def f_MO_translate_c2 (σ23 : MS) (a1 : Int32) (a2 : Int32)  : MS × Int64 := f_MO_translate_c3 (ms_refills σ23 false) a1 a2 
def f_MO_translate_c1 (σ2 : MS) (a1 : Int32) (a2 : Int32)  : MS × Int64 := if (zb (f_MO_within σ2 a2 (0 : Int32) (1 : Int32))) = 0 then (f_MO_translate_c4 (f_MO_fail σ2 (1 : Int32)) a1 a2 ) else (f_MO_translate_c2 (ms_fault σ2 (-1 : Int32)) a1 a2 )
def f_MO_translate (σ : MS) (a1 : Int32) (a2 : Int32) : MS × Int64 := f_MO_translate_c1 (ms_thrown σ (0 : Int32)) a1 a2 
def P_MO_translate_c5 (z44 : MS × Int64) (a1 : Int32) (a2 : Int32)  : Prop := ((0 ≤ (m_fault z44.1)) → ((((zb (m_refills z44.1)) = 0) → (True)) ∧ (¬ ((zb (m_refills z44.1)) = 0) → (True)))) ∧ (¬ (0 ≤ (m_fault z44.1)) → (True))
def P_MO_translate_43 (σ43 : MS) (a1 : Int32) (a2 : Int32) (w43_2 : Bool) : Prop := P_MO_physical σ43 a1 w43_2 false ∧ P_MO_translate_c5 (f_MO_physical σ43 a1 w43_2 false) a1 a2 
def P_MO_translate_c4 (z16 : MS × Int32) (a1 : Int32) (a2 : Int32)  : Prop := True
def P_MO_translate_c3 (σ28 : MS) (a1 : Int32) (a2 : Int32)  : Prop := ((a2 = (1 : Int32)) → (P_MO_translate_43 σ28 a1 a2 true)) ∧ (¬ (a2 = (1 : Int32)) → (P_MO_translate_43 σ28 a1 a2 false))
def P_MO_translate_c2 (σ23 : MS) (a1 : Int32) (a2 : Int32)  : Prop := P_MO_translate_c3 (ms_refills σ23 false) a1 a2 
def P_MO_translate_c1 (σ2 : MS) (a1 : Int32) (a2 : Int32)  : Prop := (((zb (f_MO_within σ2 a2 (0 : Int32) (1 : Int32))) = 0) → (P_MO_translate_c4 (f_MO_fail σ2 (1 : Int32)) a1 a2 )) ∧ (¬ ((zb (f_MO_within σ2 a2 (0 : Int32) (1 : Int32))) = 0) → (P_MO_translate_c2 (ms_fault σ2 (-1 : Int32)) a1 a2 ))
def P_MO_translate (σ : MS) (a1 : Int32) (a2 : Int32) : Prop := P_MO_translate_c1 (ms_thrown σ (0 : Int32)) a1 a2 
theorem d_MO_translate_0 : decode b_MO_translate 0 = .ok (.aload_n 0, 1) := by decide +kernel
theorem d_MO_translate_1 : decode b_MO_translate 1 = .ok (.iconst 0, 1) := by decide +kernel
theorem d_MO_translate_2 : decode b_MO_translate 2 = .ok (.putfield 48, 3) := by decide +kernel
theorem d_MO_translate_5 : decode b_MO_translate 5 = .ok (.iload_n 2, 1) := by decide +kernel
theorem d_MO_translate_6 : decode b_MO_translate 6 = .ok (.iconst 0, 1) := by decide +kernel
theorem d_MO_translate_7 : decode b_MO_translate 7 = .ok (.iconst 1, 1) := by decide +kernel
theorem d_MO_translate_8 : decode b_MO_translate 8 = .ok (.invokestatic 56, 3) := by decide +kernel
theorem d_MO_translate_11 : decode b_MO_translate 11 = .ok (.ifCond .ne 10, 3) := by decide +kernel
theorem d_MO_translate_14 : decode b_MO_translate 14 = .ok (.aload_n 0, 1) := by decide +kernel
theorem d_MO_translate_15 : decode b_MO_translate 15 = .ok (.iconst 1, 1) := by decide +kernel
theorem d_MO_translate_16 : decode b_MO_translate 16 = .ok (.invokevirtual 51, 3) := by decide +kernel
theorem d_MO_translate_19 : decode b_MO_translate 19 = .ok (.i2l, 1) := by decide +kernel
theorem d_MO_translate_20 : decode b_MO_translate 20 = .ok (.lreturn, 1) := by decide +kernel
theorem d_MO_translate_21 : decode b_MO_translate 21 = .ok (.aload_n 0, 1) := by decide +kernel
theorem d_MO_translate_22 : decode b_MO_translate 22 = .ok (.iconst (-1), 1) := by decide +kernel
theorem d_MO_translate_23 : decode b_MO_translate 23 = .ok (.putfield 45, 3) := by decide +kernel
theorem d_MO_translate_26 : decode b_MO_translate 26 = .ok (.aload_n 0, 1) := by decide +kernel
theorem d_MO_translate_27 : decode b_MO_translate 27 = .ok (.iconst 0, 1) := by decide +kernel
theorem d_MO_translate_28 : decode b_MO_translate 28 = .ok (.putfield 103, 3) := by decide +kernel
theorem d_MO_translate_31 : decode b_MO_translate 31 = .ok (.aload_n 0, 1) := by decide +kernel
theorem d_MO_translate_32 : decode b_MO_translate 32 = .ok (.iload_n 1, 1) := by decide +kernel
theorem d_MO_translate_33 : decode b_MO_translate 33 = .ok (.iload_n 2, 1) := by decide +kernel
theorem d_MO_translate_34 : decode b_MO_translate 34 = .ok (.iconst 1, 1) := by decide +kernel
theorem d_MO_translate_35 : decode b_MO_translate 35 = .ok (.if_icmp .ne 7, 3) := by decide +kernel
theorem d_MO_translate_38 : decode b_MO_translate 38 = .ok (.iconst 1, 1) := by decide +kernel
theorem d_MO_translate_39 : decode b_MO_translate 39 = .ok (.goto 4, 3) := by decide +kernel
theorem d_MO_translate_42 : decode b_MO_translate 42 = .ok (.iconst 0, 1) := by decide +kernel
theorem d_MO_translate_43 : decode b_MO_translate 43 = .ok (.iconst 0, 1) := by decide +kernel
theorem d_MO_translate_44 : decode b_MO_translate 44 = .ok (.invokevirtual 128, 3) := by decide +kernel
theorem d_MO_translate_47 : decode b_MO_translate 47 = .ok (.lstore_n 3, 1) := by decide +kernel
theorem d_MO_translate_48 : decode b_MO_translate 48 = .ok (.aload_n 0, 1) := by decide +kernel
theorem d_MO_translate_49 : decode b_MO_translate 49 = .ok (.getfield 45, 3) := by decide +kernel
theorem d_MO_translate_52 : decode b_MO_translate 52 = .ok (.ifCond .ge 7, 3) := by decide +kernel
theorem d_MO_translate_55 : decode b_MO_translate 55 = .ok (.lload_n 3, 1) := by decide +kernel
theorem d_MO_translate_56 : decode b_MO_translate 56 = .ok (.goto 31, 3) := by decide +kernel
theorem d_MO_translate_59 : decode b_MO_translate 59 = .ok (.aload_n 0, 1) := by decide +kernel
theorem d_MO_translate_60 : decode b_MO_translate 60 = .ok (.getfield 103, 3) := by decide +kernel
theorem d_MO_translate_63 : decode b_MO_translate 63 = .ok (.ifCond .eq 15, 3) := by decide +kernel
theorem d_MO_translate_66 : decode b_MO_translate 66 = .ok (.ldc2_w 264, 3) := by decide +kernel
theorem d_MO_translate_69 : decode b_MO_translate 69 = .ok (.aload_n 0, 1) := by decide +kernel
theorem d_MO_translate_70 : decode b_MO_translate 70 = .ok (.getfield 45, 3) := by decide +kernel
theorem d_MO_translate_73 : decode b_MO_translate 73 = .ok (.i2l, 1) := by decide +kernel
theorem d_MO_translate_74 : decode b_MO_translate 74 = .ok (.lsub, 1) := by decide +kernel
theorem d_MO_translate_75 : decode b_MO_translate 75 = .ok (.goto 12, 3) := by decide +kernel
theorem d_MO_translate_78 : decode b_MO_translate 78 = .ok (.ldc2_w 117, 3) := by decide +kernel
theorem d_MO_translate_81 : decode b_MO_translate 81 = .ok (.aload_n 0, 1) := by decide +kernel
theorem d_MO_translate_82 : decode b_MO_translate 82 = .ok (.getfield 45, 3) := by decide +kernel
theorem d_MO_translate_85 : decode b_MO_translate 85 = .ok (.i2l, 1) := by decide +kernel
theorem d_MO_translate_86 : decode b_MO_translate 86 = .ok (.lsub, 1) := by decide +kernel
theorem d_MO_translate_87 : decode b_MO_translate 87 = .ok (.lreturn, 1) := by decide +kernel
set_option maxHeartbeats 4000000 in
set_option maxRecDepth 100000 in
theorem c_MO_translate (l : Launch) (E : Ev) (ad : Nat → Nat) (σ : MS) (a1 : Int32) (a2 : Int32) (hp : P_MO_translate σ a1 a2) : rC xCl l E (mW E ad) y_MO_translate b_MO_translate 5 (Option.some Jvm.ClassFile.FieldType.long) (rmo 3 73) [.ref (ad 0), .int a1, .int a2] σ (zL (f_MO_translate σ a1 a2)) := by
  refine rC.of (by decide) (Nat.le_of_ble_eq_true rfl) ?_
  intro p e s m below meth c A ls hc w hl
  generalize e0 : zL (f_MO_translate σ a1 a2) = Z
  have hc : Cx xCl E A p s m ([.ref (ad 0), .int a1, .int a2] : List Value).toArray meth c b_MO_translate 5 (Option.some Jvm.ClassFile.FieldType.long) "PageMachineModel" := hc
  have hx := hc.1
  have hb := hc.2.1
  have ho := hc.2.2.2.2.2.1
  have hT := hc.2.2.2.2.2.2.1
  have hl : lv_has ls 5 [(0, .ref (ad 0)), (1, .int a1), (2, .int a2)] := hl
  have J43 : ∀ (σ43 : MS) (w43_2 : Bool) (H : Heap) (locs : List Loc) (ls : Array Slot), Wd xCl E A s.heap H locs (mW E ad σ43) → lv_has ls 5 [(0, .ref (ad 0))] → zL (f_MO_translate_43 σ43 a1 a2 w43_2) = Z → P_MO_translate_43 σ43 a1 a2 w43_2 → W p l e (rmo 3 73) s m ([.ref (ad 0), .int a1, .int a2] : List Value).toArray below meth c H locs 0 0 (MQ below (rQ xCl (mW E ad) E A Z) ([.ref (ad 0), .int a1, .int a2] : List Value).toArray s 0 0 A) (F0 m 43 ls [.int (zb w43_2), .int a1, .ref (ad 0)]) := by
    intro σ43 w43_2 H locs ls w hl e43 hp
    unfold P_MO_translate_43 at hp
    refine lv_iconst (v := 0) hx hb d_MO_translate_43 (by decide) ?_
    obtain ⟨hP44, hp⟩ := hp
    refine cVL (rest := []) hc w (c_MO_physical l E ad σ43 a1 w43_2 false hP44) kv_MO_physical mw_1050 0 rfl rfl ⟨Nat.le_of_ble_eq_true rfl, Nat.le_of_ble_eq_true rfl⟩ hl.1 rfl (Nat.le_of_ble_eq_true rfl) ⟨Nat.zero_le _, Nat.zero_le _⟩ d_MO_translate_44 (fun z44 H locs hs44 w => ?_)
    rw [hs44] at hp
    unfold P_MO_translate_c5 at hp
    have e_c5 : zL (f_MO_translate_c5 z44 a1 a2 ) = Z := by rw [← e43, f_MO_translate_43, hs44]
    refine lv_lstore_n (lv' := [(3, .long z44.2), (0, .ref (ad 0))]) hx hb d_MO_translate_47 rfl hl (by decide) rfl (fun ls hl => ?_)
    refine lv_aload_n hx hb d_MO_translate_48 rfl (lv_at hl 1 rfl) ?_
    refine g_MO_fault hc w mw_904 d_MO_translate_49 ?_
    refine lv_if_ge (tgt := 59) hx hb d_MO_translate_52 (by decide) (fun q52 => ?_) (fun q52 => ?_)
    · have hp := hp.1 q52
      refine lv_aload_n hx hb d_MO_translate_59 rfl (lv_at hl 1 rfl) ?_
      refine g_MO_refills hc w mw_908 d_MO_translate_60 ?_
      refine lv_if_eq (tgt := 78) hx hb d_MO_translate_63 (by decide) (fun q63 => ?_) (fun q63 => ?_)
      · have hp := hp.1 q63
        refine lv_ldc2 (v := -1) hx hb ho (hT _ mw_1049) d_MO_translate_78 ?_
        refine lv_aload_n hx hb d_MO_translate_81 rfl (lv_at hl 1 rfl) ?_
        refine g_MO_fault hc w mw_904 d_MO_translate_82 ?_
        refine lv_i2l hx hb d_MO_translate_85 rfl ?_
        refine lv_lsub hx hb d_MO_translate_86 ?_
        exact rt_l hc w d_MO_translate_87 (by rw [← e_c5, f_MO_translate_c5, if_pos q52, if_pos q63] <;> rfl)
      · have hp := hp.2 q63
        refine lv_ldc2 (v := -101) hx hb ho (hT _ mw_1187) d_MO_translate_66 ?_
        refine lv_aload_n hx hb d_MO_translate_69 rfl (lv_at hl 1 rfl) ?_
        refine g_MO_fault hc w mw_904 d_MO_translate_70 ?_
        refine lv_i2l hx hb d_MO_translate_73 rfl ?_
        refine lv_lsub hx hb d_MO_translate_74 ?_
        refine lv_goto (tgt := 87) hx hb d_MO_translate_75 (by decide) ?_
        exact rt_l hc w d_MO_translate_87 (by rw [← e_c5, f_MO_translate_c5, if_pos q52, if_neg q63] <;> rfl)
    · have hp := hp.2 q52
      refine lv_lload_n hx hb d_MO_translate_55 rfl (lv_at hl 0 rfl) ?_
      refine lv_goto (tgt := 87) hx hb d_MO_translate_56 (by decide) ?_
      exact rt_l hc w d_MO_translate_87 (by rw [← e_c5, f_MO_translate_c5, if_neg q52] <;> rfl)
  unfold P_MO_translate at hp
  refine lv_aload_n hx hb d_MO_translate_0 rfl (lv_at hl 0 rfl) ?_
  refine lv_iconst (v := 0) hx hb d_MO_translate_1 (by decide) ?_
  refine p_MO_thrown hc w mw_886 d_MO_translate_2 (fun σ2 H locs hs2 w => ?_)
  rw [hs2] at hp
  unfold P_MO_translate_c1 at hp
  have e_c1 : zL (f_MO_translate_c1 σ2 a1 a2 ) = Z := by rw [← e0, f_MO_translate, hs2]
  refine lv_iload_n hx hb d_MO_translate_5 rfl (lv_at hl 2 rfl) ?_
  refine lv_iconst (v := 0) hx hb d_MO_translate_6 (by decide) ?_
  refine lv_iconst (v := 1) hx hb d_MO_translate_7 (by decide) ?_
  refine rSZ (rest := []) hc w (c_MO_within l E ad σ2 a2 (0 : Int32) (1 : Int32)) ks_MO_within mw_976 ⟨Nat.le_of_ble_eq_true rfl, Nat.le_of_ble_eq_true rfl⟩ hl.1 rfl (Nat.le_of_ble_eq_true rfl) ⟨Nat.zero_le _, Nat.zero_le _⟩ d_MO_translate_8 (fun H locs w => ?_)
  refine lv_if_ne (tgt := 21) hx hb d_MO_translate_11 (by decide) (fun q11 => ?_) (fun q11 => ?_)
  · have hp := hp.2 q11
    refine lv_aload_n hx hb d_MO_translate_21 rfl (lv_at hl 0 rfl) ?_
    refine lv_iconst (v := -1) hx hb d_MO_translate_22 (by decide) ?_
    refine p_MO_fault hc w mw_904 d_MO_translate_23 (fun σ23 H locs hs23 w => ?_)
    rw [hs23] at hp
    unfold P_MO_translate_c2 at hp
    have e_c2 : zL (f_MO_translate_c2 σ23 a1 a2 ) = Z := by rw [← e_c1, f_MO_translate_c1, if_neg q11, hs23]
    refine lv_aload_n hx hb d_MO_translate_26 rfl (lv_at hl 0 rfl) ?_
    refine lv_iconst (v := 0) hx hb d_MO_translate_27 (by decide) ?_
    refine p_MO_refills (v := false) hc w mw_908 d_MO_translate_28 (fun σ28 H locs hs28 w => ?_)
    rw [hs28] at hp
    unfold P_MO_translate_c3 at hp
    have e_c3 : zL (f_MO_translate_c3 σ28 a1 a2 ) = Z := by rw [← e_c2, f_MO_translate_c2, hs28]
    refine lv_aload_n hx hb d_MO_translate_31 rfl (lv_at hl 0 rfl) ?_
    refine lv_iload_n hx hb d_MO_translate_32 rfl (lv_at hl 1 rfl) ?_
    refine lv_iload_n hx hb d_MO_translate_33 rfl (lv_at hl 2 rfl) ?_
    refine lv_iconst (v := 1) hx hb d_MO_translate_34 (by decide) ?_
    refine lv_icmp_ne (tgt := 42) hx hb d_MO_translate_35 (by decide) (fun q35 => ?_) (fun q35 => ?_)
    · have hp := hp.2 q35
      refine lv_iconst (v := 0) hx hb d_MO_translate_42 (by decide) ?_
      exact J43 σ28 false _ _ _ w (lv_sub hl [0] rfl) (by rw [← e_c3, f_MO_translate_c3, if_neg q35]) hp
    · have hp := hp.1 q35
      refine lv_iconst (v := 1) hx hb d_MO_translate_38 (by decide) ?_
      refine lv_goto (tgt := 43) hx hb d_MO_translate_39 (by decide) ?_
      exact J43 σ28 true _ _ _ w (lv_sub hl [0] rfl) (by rw [← e_c3, f_MO_translate_c3, if_pos q35]) hp
  · have hp := hp.1 q11
    refine lv_aload_n hx hb d_MO_translate_14 rfl (lv_at hl 0 rfl) ?_
    refine lv_iconst (v := 1) hx hb d_MO_translate_15 (by decide) ?_
    refine cVI (rest := []) hc w (c_MO_fail l E ad σ2 (1 : Int32)) kv_MO_fail mw_971 0 rfl rfl ⟨Nat.le_of_ble_eq_true rfl, Nat.le_of_ble_eq_true rfl⟩ hl.1 rfl (Nat.le_of_ble_eq_true rfl) ⟨Nat.zero_le _, Nat.zero_le _⟩ d_MO_translate_16 (fun z16 H locs hs16 w => ?_)
    rw [hs16] at hp
    unfold P_MO_translate_c4 at hp
    have e_c4 : zL (f_MO_translate_c4 z16 a1 a2 ) = Z := by rw [← e_c1, f_MO_translate_c1, if_pos q11, hs16]
    refine lv_i2l hx hb d_MO_translate_19 rfl ?_
    exact rt_l hc w d_MO_translate_20 (by rw [← e_c4, f_MO_translate_c4] <;> rfl)
-- MO_count
def f_MO_count_c2 (z17 : MS × Int32) (a1 : Int32)  : MS × Int32 := (z17.1, z17.2)
def f_MO_count_c1 (σ2 : MS) (a1 : Int32)  : MS × Int32 := if (zb (f_MO_within σ2 a1 (0 : Int32) (16 : Int32))) = 0 then (f_MO_count_c2 (f_MO_fail σ2 (1 : Int32)) a1 ) else (if a1 = 0 then ((σ2, m_steps σ2)) else (if (15 : Int32) ≤ a1 then (if a1 = (15 : Int32) then (if (zb (m_slot σ2)) = 0 then ((σ2, (0 : Int32))) else ((σ2, (1 : Int32)))) else ((σ2, m_link σ2))) else ((σ2, m_faults σ2 (Int32.toNatClampNeg (a1 - (1 : Int32)))))))
def f_MO_count (σ : MS) (a1 : Int32) : MS × Int32 := f_MO_count_c1 (ms_thrown σ (0 : Int32)) a1 
def P_MO_count_c2 (z17 : MS × Int32) (a1 : Int32)  : Prop := True
def P_MO_count_c1 (σ2 : MS) (a1 : Int32)  : Prop := (((zb (f_MO_within σ2 a1 (0 : Int32) (16 : Int32))) = 0) → (P_MO_count_c2 (f_MO_fail σ2 (1 : Int32)) a1 )) ∧ (¬ ((zb (f_MO_within σ2 a1 (0 : Int32) (16 : Int32))) = 0) → (((a1 = 0) → (True)) ∧ (¬ (a1 = 0) → ((((15 : Int32) ≤ a1) → (((a1 = (15 : Int32)) → ((((zb (m_slot σ2)) = 0) → (True)) ∧ (¬ ((zb (m_slot σ2)) = 0) → (True)))) ∧ (¬ (a1 = (15 : Int32)) → (True)))) ∧ (¬ ((15 : Int32) ≤ a1) → (vp_in (a1 - (1 : Int32)) 14 ∧ True))))))
def P_MO_count (σ : MS) (a1 : Int32) : Prop := P_MO_count_c1 (ms_thrown σ (0 : Int32)) a1 
theorem d_MO_count_0 : decode b_MO_count 0 = .ok (.aload_n 0, 1) := by decide +kernel
theorem d_MO_count_1 : decode b_MO_count 1 = .ok (.iconst 0, 1) := by decide +kernel
theorem d_MO_count_2 : decode b_MO_count 2 = .ok (.putfield 48, 3) := by decide +kernel
theorem d_MO_count_5 : decode b_MO_count 5 = .ok (.iload_n 1, 1) := by decide +kernel
theorem d_MO_count_6 : decode b_MO_count 6 = .ok (.iconst 0, 1) := by decide +kernel
theorem d_MO_count_7 : decode b_MO_count 7 = .ok (.bipush 16, 2) := by decide +kernel
theorem d_MO_count_9 : decode b_MO_count 9 = .ok (.invokestatic 56, 3) := by decide +kernel
theorem d_MO_count_12 : decode b_MO_count 12 = .ok (.ifCond .ne 9, 3) := by decide +kernel
theorem d_MO_count_15 : decode b_MO_count 15 = .ok (.aload_n 0, 1) := by decide +kernel
theorem d_MO_count_16 : decode b_MO_count 16 = .ok (.iconst 1, 1) := by decide +kernel
theorem d_MO_count_17 : decode b_MO_count 17 = .ok (.invokevirtual 51, 3) := by decide +kernel
theorem d_MO_count_20 : decode b_MO_count 20 = .ok (.ireturn, 1) := by decide +kernel
theorem d_MO_count_21 : decode b_MO_count 21 = .ok (.iload_n 1, 1) := by decide +kernel
theorem d_MO_count_22 : decode b_MO_count 22 = .ok (.ifCond .ne 10, 3) := by decide +kernel
theorem d_MO_count_25 : decode b_MO_count 25 = .ok (.aload_n 0, 1) := by decide +kernel
theorem d_MO_count_26 : decode b_MO_count 26 = .ok (.getfield 140, 3) := by decide +kernel
theorem d_MO_count_29 : decode b_MO_count 29 = .ok (.goto 45, 3) := by decide +kernel
theorem d_MO_count_32 : decode b_MO_count 32 = .ok (.iload_n 1, 1) := by decide +kernel
theorem d_MO_count_33 : decode b_MO_count 33 = .ok (.bipush 15, 2) := by decide +kernel
theorem d_MO_count_35 : decode b_MO_count 35 = .ok (.if_icmp .ge 14, 3) := by decide +kernel
theorem d_MO_count_38 : decode b_MO_count 38 = .ok (.aload_n 0, 1) := by decide +kernel
theorem d_MO_count_39 : decode b_MO_count 39 = .ok (.getfield 36, 3) := by decide +kernel
theorem d_MO_count_42 : decode b_MO_count 42 = .ok (.iload_n 1, 1) := by decide +kernel
theorem d_MO_count_43 : decode b_MO_count 43 = .ok (.iconst 1, 1) := by decide +kernel
theorem d_MO_count_44 : decode b_MO_count 44 = .ok (.isub, 1) := by decide +kernel
theorem d_MO_count_45 : decode b_MO_count 45 = .ok (.iaload, 1) := by decide +kernel
theorem d_MO_count_46 : decode b_MO_count 46 = .ok (.goto 28, 3) := by decide +kernel
theorem d_MO_count_49 : decode b_MO_count 49 = .ok (.iload_n 1, 1) := by decide +kernel
theorem d_MO_count_50 : decode b_MO_count 50 = .ok (.bipush 15, 2) := by decide +kernel
theorem d_MO_count_52 : decode b_MO_count 52 = .ok (.if_icmp .ne 18, 3) := by decide +kernel
theorem d_MO_count_55 : decode b_MO_count 55 = .ok (.aload_n 0, 1) := by decide +kernel
theorem d_MO_count_56 : decode b_MO_count 56 = .ok (.getfield 68, 3) := by decide +kernel
theorem d_MO_count_59 : decode b_MO_count 59 = .ok (.ifCond .eq 7, 3) := by decide +kernel
theorem d_MO_count_62 : decode b_MO_count 62 = .ok (.iconst 1, 1) := by decide +kernel
theorem d_MO_count_63 : decode b_MO_count 63 = .ok (.goto 11, 3) := by decide +kernel
theorem d_MO_count_66 : decode b_MO_count 66 = .ok (.iconst 0, 1) := by decide +kernel
theorem d_MO_count_67 : decode b_MO_count 67 = .ok (.goto 7, 3) := by decide +kernel
theorem d_MO_count_70 : decode b_MO_count 70 = .ok (.aload_n 0, 1) := by decide +kernel
theorem d_MO_count_71 : decode b_MO_count 71 = .ok (.getfield 242, 3) := by decide +kernel
theorem d_MO_count_74 : decode b_MO_count 74 = .ok (.ireturn, 1) := by decide +kernel
set_option maxHeartbeats 4000000 in
set_option maxRecDepth 100000 in
theorem c_MO_count (l : Launch) (E : Ev) (ad : Nat → Nat) (σ : MS) (a1 : Int32) (hp : P_MO_count σ a1) : rC xCl l E (mW E ad) y_MO_count b_MO_count 2 (Option.some Jvm.ClassFile.FieldType.int) (rmo 1 22) [.ref (ad 0), .int a1] σ (zI (f_MO_count σ a1)) := by
  refine rC.of (by decide) (Nat.le_of_ble_eq_true rfl) ?_
  intro p e s m below meth c A ls hc w hl
  generalize e0 : zI (f_MO_count σ a1) = Z
  have hc : Cx xCl E A p s m ([.ref (ad 0), .int a1] : List Value).toArray meth c b_MO_count 2 (Option.some Jvm.ClassFile.FieldType.int) "PageMachineModel" := hc
  have hx := hc.1
  have hb := hc.2.1
  have ho := hc.2.2.2.2.2.1
  have hT := hc.2.2.2.2.2.2.1
  have hl : lv_has ls 2 [(0, .ref (ad 0)), (1, .int a1)] := hl
  unfold P_MO_count at hp
  refine lv_aload_n hx hb d_MO_count_0 rfl (lv_at hl 0 rfl) ?_
  refine lv_iconst (v := 0) hx hb d_MO_count_1 (by decide) ?_
  refine p_MO_thrown hc w mw_886 d_MO_count_2 (fun σ2 H locs hs2 w => ?_)
  rw [hs2] at hp
  unfold P_MO_count_c1 at hp
  have e_c1 : zI (f_MO_count_c1 σ2 a1 ) = Z := by rw [← e0, f_MO_count, hs2]
  refine lv_iload_n hx hb d_MO_count_5 rfl (lv_at hl 1 rfl) ?_
  refine lv_iconst (v := 0) hx hb d_MO_count_6 (by decide) ?_
  refine lv_bipush (v := 16) hx hb d_MO_count_7 (by decide) ?_
  refine rSZ (rest := []) hc w (c_MO_within l E ad σ2 a1 (0 : Int32) (16 : Int32)) ks_MO_within mw_976 ⟨Nat.le_of_ble_eq_true rfl, Nat.le_of_ble_eq_true rfl⟩ hl.1 rfl (Nat.le_of_ble_eq_true rfl) ⟨Nat.zero_le _, Nat.zero_le _⟩ d_MO_count_9 (fun H locs w => ?_)
  refine lv_if_ne (tgt := 21) hx hb d_MO_count_12 (by decide) (fun q12 => ?_) (fun q12 => ?_)
  · have hp := hp.2 q12
    refine lv_iload_n hx hb d_MO_count_21 rfl (lv_at hl 1 rfl) ?_
    refine lv_if_ne (tgt := 32) hx hb d_MO_count_22 (by decide) (fun q22 => ?_) (fun q22 => ?_)
    · have hp := hp.2 q22
      refine lv_iload_n hx hb d_MO_count_32 rfl (lv_at hl 1 rfl) ?_
      refine lv_bipush (v := 15) hx hb d_MO_count_33 (by decide) ?_
      refine lv_icmp_ge (tgt := 49) hx hb d_MO_count_35 (by decide) (fun q35 => ?_) (fun q35 => ?_)
      · have hp := hp.1 q35
        refine lv_iload_n hx hb d_MO_count_49 rfl (lv_at hl 1 rfl) ?_
        refine lv_bipush (v := 15) hx hb d_MO_count_50 (by decide) ?_
        refine lv_icmp_ne (tgt := 70) hx hb d_MO_count_52 (by decide) (fun q52 => ?_) (fun q52 => ?_)
        · have hp := hp.2 q52
          refine lv_aload_n hx hb d_MO_count_70 rfl (lv_at hl 0 rfl) ?_
          refine g_MO_link hc w mw_893 d_MO_count_71 ?_
          exact rt_i hc w d_MO_count_74 (by rw [← e_c1, f_MO_count_c1, if_neg q12, if_neg q22, if_pos q35, if_neg q52] <;> rfl)
        · have hp := hp.1 q52
          refine lv_aload_n hx hb d_MO_count_55 rfl (lv_at hl 0 rfl) ?_
          refine g_MO_slot hc w mw_894 d_MO_count_56 ?_
          refine lv_if_eq (tgt := 66) hx hb d_MO_count_59 (by decide) (fun q59 => ?_) (fun q59 => ?_)
          · have hp := hp.1 q59
            refine lv_iconst (v := 0) hx hb d_MO_count_66 (by decide) ?_
            refine lv_goto (tgt := 74) hx hb d_MO_count_67 (by decide) ?_
            exact rt_i hc w d_MO_count_74 (by rw [← e_c1, f_MO_count_c1, if_neg q12, if_neg q22, if_pos q35, if_pos q52, if_pos q59] <;> rfl)
          · have hp := hp.2 q59
            refine lv_iconst (v := 1) hx hb d_MO_count_62 (by decide) ?_
            refine lv_goto (tgt := 74) hx hb d_MO_count_63 (by decide) ?_
            exact rt_i hc w d_MO_count_74 (by rw [← e_c1, f_MO_count_c1, if_neg q12, if_neg q22, if_pos q35, if_pos q52, if_neg q59] <;> rfl)
      · have hp := hp.2 q35
        refine lv_aload_n hx hb d_MO_count_38 rfl (lv_at hl 0 rfl) ?_
        refine g_MO_faults hc w mw_903 d_MO_count_39 ?_
        refine lv_iload_n hx hb d_MO_count_42 rfl (lv_at hl 1 rfl) ?_
        refine lv_iconst (v := 1) hx hb d_MO_count_43 (by decide) ?_
        refine lv_isub hx hb d_MO_count_44 ?_
        obtain ⟨hb45, hp⟩ := hp
        refine a_MO_faults hc w hb45 d_MO_count_45 ?_
        refine lv_goto (tgt := 74) hx hb d_MO_count_46 (by decide) ?_
        exact rt_i hc w d_MO_count_74 (by rw [← e_c1, f_MO_count_c1, if_neg q12, if_neg q22, if_neg q35] <;> rfl)
    · have hp := hp.1 q22
      refine lv_aload_n hx hb d_MO_count_25 rfl (lv_at hl 0 rfl) ?_
      refine g_MO_steps hc w mw_902 d_MO_count_26 ?_
      refine lv_goto (tgt := 74) hx hb d_MO_count_29 (by decide) ?_
      exact rt_i hc w d_MO_count_74 (by rw [← e_c1, f_MO_count_c1, if_neg q12, if_pos q22] <;> rfl)
  · have hp := hp.1 q12
    refine lv_aload_n hx hb d_MO_count_15 rfl (lv_at hl 0 rfl) ?_
    refine lv_iconst (v := 1) hx hb d_MO_count_16 (by decide) ?_
    refine cVI (rest := []) hc w (c_MO_fail l E ad σ2 (1 : Int32)) kv_MO_fail mw_971 0 rfl rfl ⟨Nat.le_of_ble_eq_true rfl, Nat.le_of_ble_eq_true rfl⟩ hl.1 rfl (Nat.le_of_ble_eq_true rfl) ⟨Nat.zero_le _, Nat.zero_le _⟩ d_MO_count_17 (fun z17 H locs hs17 w => ?_)
    rw [hs17] at hp
    unfold P_MO_count_c2 at hp
    have e_c2 : zI (f_MO_count_c2 z17 a1 ) = Z := by rw [← e_c1, f_MO_count_c1, if_pos q12, hs17]
    exact rt_i hc w d_MO_count_20 (by rw [← e_c2, f_MO_count_c2] <;> rfl)
-- MO_handler
def f_MO_handler_c8 (σ68 : MS)   : MS × Int32 := (σ68, (7 : Int32))
def f_MO_handler_c7 (σ58 : MS)   : MS × Int32 := f_MO_handler_c8 (ms_memory σ58 (upd (m_memory σ58) (Int32.toNatClampNeg (6 : Int32)) (1107296280 : Int32)))  
def f_MO_handler_c6 (σ49 : MS)   : MS × Int32 := f_MO_handler_c7 (ms_memory σ49 (upd (m_memory σ49) (Int32.toNatClampNeg (5 : Int32)) (1107296262 : Int32)))  
def f_MO_handler_c5 (σ40 : MS)   : MS × Int32 := f_MO_handler_c6 (ms_memory σ40 (upd (m_memory σ40) (Int32.toNatClampNeg (4 : Int32)) (1083906048 : Int32)))  
def f_MO_handler_c4 (σ31 : MS)   : MS × Int32 := f_MO_handler_c5 (ms_memory σ31 (upd (m_memory σ31) (Int32.toNatClampNeg (3 : Int32)) (-1887764476 : Int32)))  
def f_MO_handler_c3 (σ22 : MS)   : MS × Int32 := f_MO_handler_c4 (ms_memory σ22 (upd (m_memory σ22) (Int32.toNatClampNeg (2 : Int32)) (1083838464 : Int32)))  
def f_MO_handler_c2 (σ13 : MS)   : MS × Int32 := f_MO_handler_c3 (ms_memory σ13 (upd (m_memory σ13) (Int32.toNatClampNeg (1 : Int32)) (-1887830016 : Int32)))  
def f_MO_handler_c1 (σ2 : MS)   : MS × Int32 := f_MO_handler_c2 (ms_memory σ2 (upd (m_memory σ2) (Int32.toNatClampNeg (0 : Int32)) (1075519488 : Int32)))  
def f_MO_handler (σ : MS) : MS × Int32 := f_MO_handler_c1 (ms_thrown σ (0 : Int32))  
theorem d_MO_handler_0 : decode b_MO_handler 0 = .ok (.aload_n 0, 1) := by decide +kernel
theorem d_MO_handler_1 : decode b_MO_handler 1 = .ok (.iconst 0, 1) := by decide +kernel
theorem d_MO_handler_2 : decode b_MO_handler 2 = .ok (.putfield 48, 3) := by decide +kernel
theorem d_MO_handler_5 : decode b_MO_handler 5 = .ok (.aload_n 0, 1) := by decide +kernel
theorem d_MO_handler_6 : decode b_MO_handler 6 = .ok (.getfield 8, 3) := by decide +kernel
theorem d_MO_handler_9 : decode b_MO_handler 9 = .ok (.iconst 0, 1) := by decide +kernel
theorem d_MO_handler_10 : decode b_MO_handler 10 = .ok (.ldc_w 266, 3) := by decide +kernel
theorem d_MO_handler_13 : decode b_MO_handler 13 = .ok (.iastore, 1) := by decide +kernel
theorem d_MO_handler_14 : decode b_MO_handler 14 = .ok (.aload_n 0, 1) := by decide +kernel
theorem d_MO_handler_15 : decode b_MO_handler 15 = .ok (.getfield 8, 3) := by decide +kernel
theorem d_MO_handler_18 : decode b_MO_handler 18 = .ok (.iconst 1, 1) := by decide +kernel
theorem d_MO_handler_19 : decode b_MO_handler 19 = .ok (.ldc_w 267, 3) := by decide +kernel
theorem d_MO_handler_22 : decode b_MO_handler 22 = .ok (.iastore, 1) := by decide +kernel
theorem d_MO_handler_23 : decode b_MO_handler 23 = .ok (.aload_n 0, 1) := by decide +kernel
theorem d_MO_handler_24 : decode b_MO_handler 24 = .ok (.getfield 8, 3) := by decide +kernel
theorem d_MO_handler_27 : decode b_MO_handler 27 = .ok (.iconst 2, 1) := by decide +kernel
theorem d_MO_handler_28 : decode b_MO_handler 28 = .ok (.ldc_w 268, 3) := by decide +kernel
theorem d_MO_handler_31 : decode b_MO_handler 31 = .ok (.iastore, 1) := by decide +kernel
theorem d_MO_handler_32 : decode b_MO_handler 32 = .ok (.aload_n 0, 1) := by decide +kernel
theorem d_MO_handler_33 : decode b_MO_handler 33 = .ok (.getfield 8, 3) := by decide +kernel
theorem d_MO_handler_36 : decode b_MO_handler 36 = .ok (.iconst 3, 1) := by decide +kernel
theorem d_MO_handler_37 : decode b_MO_handler 37 = .ok (.ldc_w 269, 3) := by decide +kernel
theorem d_MO_handler_40 : decode b_MO_handler 40 = .ok (.iastore, 1) := by decide +kernel
theorem d_MO_handler_41 : decode b_MO_handler 41 = .ok (.aload_n 0, 1) := by decide +kernel
theorem d_MO_handler_42 : decode b_MO_handler 42 = .ok (.getfield 8, 3) := by decide +kernel
theorem d_MO_handler_45 : decode b_MO_handler 45 = .ok (.iconst 4, 1) := by decide +kernel
theorem d_MO_handler_46 : decode b_MO_handler 46 = .ok (.ldc_w 270, 3) := by decide +kernel
theorem d_MO_handler_49 : decode b_MO_handler 49 = .ok (.iastore, 1) := by decide +kernel
theorem d_MO_handler_50 : decode b_MO_handler 50 = .ok (.aload_n 0, 1) := by decide +kernel
theorem d_MO_handler_51 : decode b_MO_handler 51 = .ok (.getfield 8, 3) := by decide +kernel
theorem d_MO_handler_54 : decode b_MO_handler 54 = .ok (.iconst 5, 1) := by decide +kernel
theorem d_MO_handler_55 : decode b_MO_handler 55 = .ok (.ldc_w 271, 3) := by decide +kernel
theorem d_MO_handler_58 : decode b_MO_handler 58 = .ok (.iastore, 1) := by decide +kernel
theorem d_MO_handler_59 : decode b_MO_handler 59 = .ok (.aload_n 0, 1) := by decide +kernel
theorem d_MO_handler_60 : decode b_MO_handler 60 = .ok (.getfield 8, 3) := by decide +kernel
theorem d_MO_handler_63 : decode b_MO_handler 63 = .ok (.bipush 6, 2) := by decide +kernel
theorem d_MO_handler_65 : decode b_MO_handler 65 = .ok (.ldc_w 272, 3) := by decide +kernel
theorem d_MO_handler_68 : decode b_MO_handler 68 = .ok (.iastore, 1) := by decide +kernel
theorem d_MO_handler_69 : decode b_MO_handler 69 = .ok (.bipush 7, 2) := by decide +kernel
theorem d_MO_handler_71 : decode b_MO_handler 71 = .ok (.ireturn, 1) := by decide +kernel
set_option maxHeartbeats 4000000 in
set_option maxRecDepth 100000 in
theorem c_MO_handler (l : Launch) (E : Ev) (ad : Nat → Nat) (σ : MS) : rC xCl l E (mW E ad) y_MO_handler b_MO_handler 1 (Option.some Jvm.ClassFile.FieldType.int) (rmo 0 0) [.ref (ad 0)] σ (zI (f_MO_handler σ)) := by
  refine rC.of (by decide) (Nat.le_of_ble_eq_true rfl) ?_
  intro p e s m below meth c A ls hc w hl
  generalize e0 : zI (f_MO_handler σ) = Z
  have hc : Cx xCl E A p s m ([.ref (ad 0)] : List Value).toArray meth c b_MO_handler 1 (Option.some Jvm.ClassFile.FieldType.int) "PageMachineModel" := hc
  have hx := hc.1
  have hb := hc.2.1
  have ho := hc.2.2.2.2.2.1
  have hT := hc.2.2.2.2.2.2.1
  have hl : lv_has ls 1 [(0, .ref (ad 0))] := hl
  refine lv_aload_n hx hb d_MO_handler_0 rfl (lv_at hl 0 rfl) ?_
  refine lv_iconst (v := 0) hx hb d_MO_handler_1 (by decide) ?_
  refine p_MO_thrown hc w mw_886 d_MO_handler_2 (fun σ2 H locs hs2 w => ?_)
  have e_c1 : zI (f_MO_handler_c1 σ2  ) = Z := by rw [← e0, f_MO_handler, hs2]
  refine lv_aload_n hx hb d_MO_handler_5 rfl (lv_at hl 0 rfl) ?_
  refine g_MO_memory hc w mw_887 d_MO_handler_6 ?_
  refine lv_iconst (v := 0) hx hb d_MO_handler_9 (by decide) ?_
  refine lv_ldcw (v := 1075519488) hx hb ho (hT _ mw_1192) d_MO_handler_10 ?_
  refine s_MO_memory hc w (by unfold vp_in; decide) d_MO_handler_13 (fun σ13 H locs hs13 w => ?_)
  have e_c2 : zI (f_MO_handler_c2 σ13  ) = Z := by rw [← e_c1, f_MO_handler_c1, hs13]
  refine lv_aload_n hx hb d_MO_handler_14 rfl (lv_at hl 0 rfl) ?_
  refine g_MO_memory hc w mw_887 d_MO_handler_15 ?_
  refine lv_iconst (v := 1) hx hb d_MO_handler_18 (by decide) ?_
  refine lv_ldcw (v := -1887830016) hx hb ho (hT _ mw_1193) d_MO_handler_19 ?_
  refine s_MO_memory hc w (by unfold vp_in; decide) d_MO_handler_22 (fun σ22 H locs hs22 w => ?_)
  have e_c3 : zI (f_MO_handler_c3 σ22  ) = Z := by rw [← e_c2, f_MO_handler_c2, hs22]
  refine lv_aload_n hx hb d_MO_handler_23 rfl (lv_at hl 0 rfl) ?_
  refine g_MO_memory hc w mw_887 d_MO_handler_24 ?_
  refine lv_iconst (v := 2) hx hb d_MO_handler_27 (by decide) ?_
  refine lv_ldcw (v := 1083838464) hx hb ho (hT _ mw_1194) d_MO_handler_28 ?_
  refine s_MO_memory hc w (by unfold vp_in; decide) d_MO_handler_31 (fun σ31 H locs hs31 w => ?_)
  have e_c4 : zI (f_MO_handler_c4 σ31  ) = Z := by rw [← e_c3, f_MO_handler_c3, hs31]
  refine lv_aload_n hx hb d_MO_handler_32 rfl (lv_at hl 0 rfl) ?_
  refine g_MO_memory hc w mw_887 d_MO_handler_33 ?_
  refine lv_iconst (v := 3) hx hb d_MO_handler_36 (by decide) ?_
  refine lv_ldcw (v := -1887764476) hx hb ho (hT _ mw_1195) d_MO_handler_37 ?_
  refine s_MO_memory hc w (by unfold vp_in; decide) d_MO_handler_40 (fun σ40 H locs hs40 w => ?_)
  have e_c5 : zI (f_MO_handler_c5 σ40  ) = Z := by rw [← e_c4, f_MO_handler_c4, hs40]
  refine lv_aload_n hx hb d_MO_handler_41 rfl (lv_at hl 0 rfl) ?_
  refine g_MO_memory hc w mw_887 d_MO_handler_42 ?_
  refine lv_iconst (v := 4) hx hb d_MO_handler_45 (by decide) ?_
  refine lv_ldcw (v := 1083906048) hx hb ho (hT _ mw_1196) d_MO_handler_46 ?_
  refine s_MO_memory hc w (by unfold vp_in; decide) d_MO_handler_49 (fun σ49 H locs hs49 w => ?_)
  have e_c6 : zI (f_MO_handler_c6 σ49  ) = Z := by rw [← e_c5, f_MO_handler_c5, hs49]
  refine lv_aload_n hx hb d_MO_handler_50 rfl (lv_at hl 0 rfl) ?_
  refine g_MO_memory hc w mw_887 d_MO_handler_51 ?_
  refine lv_iconst (v := 5) hx hb d_MO_handler_54 (by decide) ?_
  refine lv_ldcw (v := 1107296262) hx hb ho (hT _ mw_1197) d_MO_handler_55 ?_
  refine s_MO_memory hc w (by unfold vp_in; decide) d_MO_handler_58 (fun σ58 H locs hs58 w => ?_)
  have e_c7 : zI (f_MO_handler_c7 σ58  ) = Z := by rw [← e_c6, f_MO_handler_c6, hs58]
  refine lv_aload_n hx hb d_MO_handler_59 rfl (lv_at hl 0 rfl) ?_
  refine g_MO_memory hc w mw_887 d_MO_handler_60 ?_
  refine lv_bipush (v := 6) hx hb d_MO_handler_63 (by decide) ?_
  refine lv_ldcw (v := 1107296280) hx hb ho (hT _ mw_1198) d_MO_handler_65 ?_
  refine s_MO_memory hc w (by unfold vp_in; decide) d_MO_handler_68 (fun σ68 H locs hs68 w => ?_)
  have e_c8 : zI (f_MO_handler_c8 σ68  ) = Z := by rw [← e_c7, f_MO_handler_c7, hs68]
  refine lv_bipush (v := 7) hx hb d_MO_handler_69 (by decide) ?_
  exact rt_i hc w d_MO_handler_71 (by rw [← e_c8, f_MO_handler_c8] <;> rfl)
