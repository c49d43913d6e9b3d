-- MO_step
theorem st_in {σ : MS} {a : Int32} (h : ¬ zb (f_MO_within σ a 1 20000) = 0) : a = nI a.toNatClampNeg ∧ 1 ≤ a.toNatClampNeg ∧ a.toNatClampNeg ≤ 20000 := by
  unfold f_MO_within at h
  split at h
  · exact absurd rfl h
  · split at h
    · exact absurd rfl h
    · rename_i h1 h2
      rw [Int32.lt_iff_toInt_lt] at h1 h2
      have e1 : (1 : Int32).toInt = 1 := rfl
      have e2 : (20000 : Int32).toInt = 20000 := rfl
      obtain ⟨j, hj, rfl⟩ := nI_of (x := a) (by rw [Int32.lt_iff_toInt_lt]; have e0 : (0 : Int32).toInt = 0 := rfl; omega)
      rw [nI_toInt hj] at h1 h2
      rw [nI_clamp hj]
      exact ⟨rfl, by omega, by omega⟩
def f_MO_step_26 : Nat → MS → Int32 → Int32 → Int32 → MS × Int32
  | 0, σ26, a1, v26_3, v26_2 => (σ26, 0)
  | fuel + 1, σ26, a1, v26_3, v26_2 => if a1 ≤ v26_3 then ((σ26, v26_2)) else (if (zb (f_MO_go σ26).2) = 0 then (f_MO_step_26 fuel (f_MO_go σ26).1 a1 (v26_3 + (1 : Int32)) (v26_2 + (0 : Int32))) else (f_MO_step_26 fuel (f_MO_go σ26).1 a1 (v26_3 + (1 : Int32)) (v26_2 + (1 : Int32))))
def f_MO_step_c2 (z18 : MS × Int32) (a1 : Int32)  : MS × Int32 := (z18.1, z18.2)
def f_MO_step_c1 (σ2 : MS) (a1 : Int32)  : MS × Int32 := if (zb (f_MO_within σ2 a1 (1 : Int32) (20000 : Int32))) = 0 then (f_MO_step_c2 (f_MO_fail σ2 (1 : Int32)) a1 ) else (f_MO_step_26 (a1.toNatClampNeg + 1) σ2 a1 (0 : Int32) (0 : Int32))
def f_MO_step (σ : MS) (a1 : Int32) : MS × Int32 := f_MO_step_c1 (ms_thrown σ (0 : Int32)) a1 
def P_MO_step_26 : Nat → MS → Int32 → Int32 → Int32 → Prop
  | 0, _, _, _, _ => True
  | fuel + 1, σ26, a1, v26_3, v26_2 => ((a1 ≤ v26_3) → (True)) ∧ (¬ (a1 ≤ v26_3) → (P_MO_go σ26 ∧ (((zb (f_MO_go σ26).2) = 0) → (P_MO_step_26 fuel (f_MO_go σ26).1 a1 (v26_3 + (1 : Int32)) (v26_2 + (0 : Int32)))) ∧ (¬ ((zb (f_MO_go σ26).2) = 0) → (P_MO_step_26 fuel (f_MO_go σ26).1 a1 (v26_3 + (1 : Int32)) (v26_2 + (1 : Int32))))))
def P_MO_step_c2 (z18 : MS × Int32) (a1 : Int32)  : Prop := True
def P_MO_step_c1 (σ2 : MS) (a1 : Int32)  : Prop := (((zb (f_MO_within σ2 a1 (1 : Int32) (20000 : Int32))) = 0) → (P_MO_step_c2 (f_MO_fail σ2 (1 : Int32)) a1 )) ∧ (¬ ((zb (f_MO_within σ2 a1 (1 : Int32) (20000 : Int32))) = 0) → (P_MO_step_26 (a1.toNatClampNeg + 1) σ2 a1 (0 : Int32) (0 : Int32)))
def P_MO_step (σ : MS) (a1 : Int32) : Prop := P_MO_step_c1 (ms_thrown σ (0 : Int32)) a1 
theorem d_MO_step_0 : decode b_MO_step 0 = .ok (.aload_n 0, 1) := by decide +kernel
theorem d_MO_step_1 : decode b_MO_step 1 = .ok (.iconst 0, 1) := by decide +kernel
theorem d_MO_step_2 : decode b_MO_step 2 = .ok (.putfield 48, 3) := by decide +kernel
theorem d_MO_step_5 : decode b_MO_step 5 = .ok (.iload_n 1, 1) := by decide +kernel
theorem d_MO_step_6 : decode b_MO_step 6 = .ok (.iconst 1, 1) := by decide +kernel
theorem d_MO_step_7 : decode b_MO_step 7 = .ok (.sipush 20000, 3) := by decide +kernel
theorem d_MO_step_10 : decode b_MO_step 10 = .ok (.invokestatic 56, 3) := by decide +kernel
theorem d_MO_step_13 : decode b_MO_step 13 = .ok (.ifCond .ne 9, 3) := by decide +kernel
theorem d_MO_step_16 : decode b_MO_step 16 = .ok (.aload_n 0, 1) := by decide +kernel
theorem d_MO_step_17 : decode b_MO_step 17 = .ok (.iconst 1, 1) := by decide +kernel
theorem d_MO_step_18 : decode b_MO_step 18 = .ok (.invokevirtual 51, 3) := by decide +kernel
theorem d_MO_step_21 : decode b_MO_step 21 = .ok (.ireturn, 1) := by decide +kernel
theorem d_MO_step_22 : decode b_MO_step 22 = .ok (.iconst 0, 1) := by decide +kernel
theorem d_MO_step_23 : decode b_MO_step 23 = .ok (.istore_n 2, 1) := by decide +kernel
theorem d_MO_step_24 : decode b_MO_step 24 = .ok (.iconst 0, 1) := by decide +kernel
theorem d_MO_step_25 : decode b_MO_step 25 = .ok (.istore_n 3, 1) := by decide +kernel
theorem d_MO_step_26 : decode b_MO_step 26 = .ok (.iload_n 3, 1) := by decide +kernel
theorem d_MO_step_27 : decode b_MO_step 27 = .ok (.iload_n 1, 1) := by decide +kernel
theorem d_MO_step_28 : decode b_MO_step 28 = .ok (.if_icmp .ge 24, 3) := by decide +kernel
theorem d_MO_step_31 : decode b_MO_step 31 = .ok (.iload_n 2, 1) := by decide +kernel
theorem d_MO_step_32 : decode b_MO_step 32 = .ok (.aload_n 0, 1) := by decide +kernel
theorem d_MO_step_33 : decode b_MO_step 33 = .ok (.invokevirtual 166, 3) := by decide +kernel
theorem d_MO_step_36 : decode b_MO_step 36 = .ok (.ifCond .eq 7, 3) := by decide +kernel
theorem d_MO_step_39 : decode b_MO_step 39 = .ok (.iconst 1, 1) := by decide +kernel
theorem d_MO_step_40 : decode b_MO_step 40 = .ok (.goto 4, 3) := by decide +kernel
theorem d_MO_step_43 : decode b_MO_step 43 = .ok (.iconst 0, 1) := by decide +kernel
theorem d_MO_step_44 : decode b_MO_step 44 = .ok (.iadd, 1) := by decide +kernel
theorem d_MO_step_45 : decode b_MO_step 45 = .ok (.istore_n 2, 1) := by decide +kernel
theorem d_MO_step_46 : decode b_MO_step 46 = .ok (.iinc 3 1, 3) := by decide +kernel
theorem d_MO_step_49 : decode b_MO_step 49 = .ok (.goto (-23), 3) := by decide +kernel
theorem d_MO_step_52 : decode b_MO_step 52 = .ok (.iload_n 2, 1) := by decide +kernel
theorem d_MO_step_53 : decode b_MO_step 53 = .ok (.ireturn, 1) := by decide +kernel
set_option maxHeartbeats 4000000 in
set_option maxRecDepth 100000 in
theorem c_MO_step (l : Launch) (E : Ev) (ad : Nat → Nat) (σ : MS) (a1 : Int32) (hp : P_MO_step σ a1) : rC xCl l E (mW E ad) y_MO_step b_MO_step 4 (Option.some Jvm.ClassFile.FieldType.int) (rmo 7 176) [.ref (ad 0), .int a1] σ (zI (f_MO_step σ a1)) := by
  refine rC.of (by decide) (Nat.le_of_ble_eq_true rfl) ?_
  intro p e s m below meth c A ls hc w hl
  generalize e0 : zI (f_MO_step σ a1) = Z
  have hc : Cx xCl E A p s m ([.ref (ad 0), .int a1] : List Value).toArray meth c b_MO_step 4 (Option.some Jvm.ClassFile.FieldType.int) "PageMachineModel" := hc
  have hx := hc.1
  have hb := hc.2.1
  have ho := hc.2.2.2.2.2.1
  have hT := hc.2.2.2.2.2.2.1
  have hl : lv_has ls 4 [(0, .ref (ad 0)), (1, .int a1)] := hl
  have J26 : ∀ (fuel : Nat) (σ26 : MS) (v26_3 : Int32) (v26_2 : Int32) , (∃ i : Nat, v26_3 = nI i ∧ i ≤ a1.toNatClampNeg ∧ i + fuel = a1.toNatClampNeg + 1 ∧ a1 = nI a1.toNatClampNeg ∧ a1.toNatClampNeg ≤ 20000) → ∀ (H : Heap) (locs : List Loc) (ls : Array Slot), Wd xCl E A s.heap H locs (mW E ad σ26) → lv_has ls 4 [(3, .int v26_3), (2, .int v26_2), (0, .ref (ad 0)), (1, .int a1)] → zI (f_MO_step_26 fuel σ26 a1 v26_3 v26_2) = Z → P_MO_step_26 fuel σ26 a1 v26_3 v26_2 → W p l e (rmo 7 176) s m ([.ref (ad 0), .int a1] : List Value).toArray below meth c H locs 0 0 (MQ below (rQ xCl (mW E ad) E A Z) ([.ref (ad 0), .int a1] : List Value).toArray s 0 0 A) (F0 m 26 ls []) := by
    intro fuel
    induction fuel with
    | zero =>
      intro σ26 v26_3 v26_2 hinv
      exact absurd hinv (fun ⟨i, _, h1, h2, _, _⟩ => by omega)
    | succ fuel ih =>
      intro σ26 v26_3 v26_2 hinv H locs ls w hl e26 hp
      rw [P_MO_step_26] at hp
      obtain ⟨i, hi, hj1, hj2, hj3, hj4⟩ := hinv
      refine lv_iload_n hx hb d_MO_step_26 rfl (lv_at hl 0 rfl) ?_
      refine lv_iload_n hx hb d_MO_step_27 rfl (lv_at hl 3 rfl) ?_
      refine lv_icmp_ge (tgt := 52) hx hb d_MO_step_28 (by decide) (fun q28 => ?_) (fun q28 => ?_)
      · have hp := hp.1 q28
        refine lv_iload_n hx hb d_MO_step_52 rfl (lv_at hl 1 rfl) ?_
        exact rt_i hc w d_MO_step_53 (by rw [← e26, f_MO_step_26, if_pos q28] <;> rfl)
      · have hp := hp.2 q28
        refine lv_iload_n hx hb d_MO_step_31 rfl (lv_at hl 1 rfl) ?_
        refine lv_aload_n hx hb d_MO_step_32 rfl (lv_at hl 2 rfl) ?_
        obtain ⟨hP33, hp⟩ := hp
        refine cVZ (rest := [.int v26_2]) hc w (c_MO_go l E ad σ26 hP33) kv_MO_go mw_1020 0 rfl rfl ⟨Nat.le_of_ble_eq_true rfl, Nat.le_of_ble_eq_true rfl⟩ hl.1 rfl (Nat.le_of_ble_eq_true rfl) ⟨Nat.zero_le _, Nat.zero_le _⟩ d_MO_step_33 (fun z33 H locs hs33 w => ?_)
        rw [hs33] at hp
        refine lv_if_eq (tgt := 43) hx hb d_MO_step_36 (by decide) (fun q36 => ?_) (fun q36 => ?_)
        · have hp := hp.1 q36
          refine lv_iconst (v := 0) hx hb d_MO_step_43 (by decide) ?_
          refine lv_iadd hx hb d_MO_step_44 ?_
          refine lv_istore_n (lv' := [(2, .int (v26_2 + (0 : Int32))), (3, .int v26_3), (0, .ref (ad 0)), (1, .int a1)]) hx hb d_MO_step_45 rfl hl (by decide) rfl (fun ls hl => ?_)
          refine lv_iinc (v := v26_3 + (1 : Int32)) (lv' := [(3, .int (v26_3 + (1 : Int32))), (2, .int (v26_2 + (0 : Int32))), (0, .ref (ad 0)), (1, .int a1)]) hx hb d_MO_step_46 hl (k := 1) rfl rfl (by decide) rfl (fun ls hl => ?_)
          refine lv_goto (tgt := 26) hx hb d_MO_step_49 (by decide) ?_
          exact ih z33.1 (v26_3 + (1 : Int32)) (v26_2 + (0 : Int32)) (⟨i + 1, (bd_lt hi hj3 q28 (by omega) (by omega)).2.2, (bd_lt hi hj3 q28 (by omega) (by omega)).1, by omega, hj3, hj4⟩) _ _ _ w (lv_sub hl [0, 1, 2, 3] rfl) (by rw [← e26, f_MO_step_26, if_neg q28, hs33, if_pos q36]) hp
        · have hp := hp.2 q36
          refine lv_iconst (v := 1) hx hb d_MO_step_39 (by decide) ?_
          refine lv_goto (tgt := 44) hx hb d_MO_step_40 (by decide) ?_
          refine lv_iadd hx hb d_MO_step_44 ?_
          refine lv_istore_n (lv' := [(2, .int (v26_2 + (1 : Int32))), (3, .int v26_3), (0, .ref (ad 0)), (1, .int a1)]) hx hb d_MO_step_45 rfl hl (by decide) rfl (fun ls hl => ?_)
          refine lv_iinc (v := v26_3 + (1 : Int32)) (lv' := [(3, .int (v26_3 + (1 : Int32))), (2, .int (v26_2 + (1 : Int32))), (0, .ref (ad 0)), (1, .int a1)]) hx hb d_MO_step_46 hl (k := 1) rfl rfl (by decide) rfl (fun ls hl => ?_)
          refine lv_goto (tgt := 26) hx hb d_MO_step_49 (by decide) ?_
          exact ih z33.1 (v26_3 + (1 : Int32)) (v26_2 + (1 : Int32)) (⟨i + 1, (bd_lt hi hj3 q28 (by omega) (by omega)).2.2, (bd_lt hi hj3 q28 (by omega) (by omega)).1, by omega, hj3, hj4⟩) _ _ _ w (lv_sub hl [0, 1, 2, 3] rfl) (by rw [← e26, f_MO_step_26, if_neg q28, hs33, if_neg q36]) hp
  unfold P_MO_step at hp
  refine lv_aload_n hx hb d_MO_step_0 rfl (lv_at hl 0 rfl) ?_
  refine lv_iconst (v := 0) hx hb d_MO_step_1 (by decide) ?_
  refine p_MO_thrown hc w mw_886 d_MO_step_2 (fun σ2 H locs hs2 w => ?_)
  rw [hs2] at hp
  unfold P_MO_step_c1 at hp
  have e_c1 : zI (f_MO_step_c1 σ2 a1 ) = Z := by rw [← e0, f_MO_step, hs2]
  refine lv_iload_n hx hb d_MO_step_5 rfl (lv_at hl 1 rfl) ?_
  refine lv_iconst (v := 1) hx hb d_MO_step_6 (by decide) ?_
  refine lv_sipush (v := 20000) hx hb d_MO_step_7 (by decide) ?_
  refine rSZ (rest := []) hc w (c_MO_within l E ad σ2 a1 (1 : Int32) (20000 : Int32)) ks_MO_within mw_976 ⟨Nat.le_of_ble_eq_true rfl, Nat.le_of_ble_eq_true rfl⟩ hl.1 rfl (Nat.le_of_ble_eq_true rfl) ⟨Nat.zero_le _, Nat.zero_le _⟩ d_MO_step_10 (fun H locs w => ?_)
  refine lv_if_ne (tgt := 22) hx hb d_MO_step_13 (by decide) (fun q13 => ?_) (fun q13 => ?_)
  · have hp := hp.2 q13
    refine lv_iconst (v := 0) hx hb d_MO_step_22 (by decide) ?_
    refine lv_istore_n (lv' := [(2, .int (0 : Int32)), (0, .ref (ad 0)), (1, .int a1)]) hx hb d_MO_step_23 rfl hl (by decide) rfl (fun ls hl => ?_)
    refine lv_iconst (v := 0) hx hb d_MO_step_24 (by decide) ?_
    refine lv_istore_n (lv' := [(3, .int (0 : Int32)), (2, .int (0 : Int32)), (0, .ref (ad 0)), (1, .int a1)]) hx hb d_MO_step_25 rfl hl (by decide) rfl (fun ls hl => ?_)
    exact J26 (a1.toNatClampNeg + 1) σ2 (0 : Int32) (0 : Int32) (⟨0, rfl, by omega, by omega, (st_in q13).1, (st_in q13).2.2⟩) _ _ _ w (lv_sub hl [0, 1, 2, 3] rfl) (by rw [← e_c1, f_MO_step_c1, if_neg q13]) hp
  · have hp := hp.1 q13
    refine lv_aload_n hx hb d_MO_step_16 rfl (lv_at hl 0 rfl) ?_
    refine lv_iconst (v := 1) hx hb d_MO_step_17 (by decide) ?_
    refine cVI (rest := []) hc w (c_MO_fail l E ad σ2 (1 : Int32)) kv_MO_fail mw_971 0 rfl rfl ⟨Nat.le_of_ble_eq_true rfl, Nat.le_of_ble_eq_true rfl⟩ hl.1 rfl (Nat.le_of_ble_eq_true rfl) ⟨Nat.zero_le _, Nat.zero_le _⟩ d_MO_step_18 (fun z18 H locs hs18 w => ?_)
    rw [hs18] at hp
    unfold P_MO_step_c2 at hp
    have e_c2 : zI (f_MO_step_c2 z18 a1 ) = Z := by rw [← e_c1, f_MO_step_c1, if_pos q13, hs18]
    exact rt_i hc w d_MO_step_21 (by rw [← e_c2, f_MO_step_c2] <;> rfl)
-- PM_handler
def f_PM_handler_2 : Nat → XS → Int32 → XS × Int32
  | 0, σ2, v2_1 => (σ2, 0)
  | fuel + 1, σ2, v2_1 => if (7 : Int32) ≤ v2_1 then ((σ2, (7 : Int32))) else (f_PM_handler_2 fuel (f_ME_putWord σ2 ((4 : Int32) * v2_1) (rhI (Int32.toNatClampNeg v2_1))) (v2_1 + (1 : Int32)))
def f_PM_handler (σ : XS) : XS × Int32 := f_PM_handler_2 8 σ (0 : Int32)
theorem d_PM_handler_0 : decode b_PM_handler 0 = .ok (.iconst 0, 1) := by decide +kernel
theorem d_PM_handler_1 : decode b_PM_handler 1 = .ok (.istore_n 1, 1) := by decide +kernel
theorem d_PM_handler_2 : decode b_PM_handler 2 = .ok (.iload_n 1, 1) := by decide +kernel
theorem d_PM_handler_3 : decode b_PM_handler 3 = .ok (.getstatic 149, 3) := by decide +kernel
theorem d_PM_handler_6 : decode b_PM_handler 6 = .ok (.arraylength, 1) := by decide +kernel
theorem d_PM_handler_7 : decode b_PM_handler 7 = .ok (.if_icmp .ge 24, 3) := by decide +kernel
theorem d_PM_handler_10 : decode b_PM_handler 10 = .ok (.aload_n 0, 1) := by decide +kernel
theorem d_PM_handler_11 : decode b_PM_handler 11 = .ok (.getfield 10, 3) := by decide +kernel
theorem d_PM_handler_14 : decode b_PM_handler 14 = .ok (.iconst 4, 1) := by decide +kernel
theorem d_PM_handler_15 : decode b_PM_handler 15 = .ok (.iload_n 1, 1) := by decide +kernel
theorem d_PM_handler_16 : decode b_PM_handler 16 = .ok (.imul, 1) := by decide +kernel
theorem d_PM_handler_17 : decode b_PM_handler 17 = .ok (.getstatic 149, 3) := by decide +kernel
theorem d_PM_handler_20 : decode b_PM_handler 20 = .ok (.iload_n 1, 1) := by decide +kernel
theorem d_PM_handler_21 : decode b_PM_handler 21 = .ok (.iaload, 1) := by decide +kernel
theorem d_PM_handler_22 : decode b_PM_handler 22 = .ok (.invokevirtual 63, 3) := by decide +kernel
theorem d_PM_handler_25 : decode b_PM_handler 25 = .ok (.iinc 1 1, 3) := by decide +kernel
theorem d_PM_handler_28 : decode b_PM_handler 28 = .ok (.goto (-26), 3) := by decide +kernel
theorem d_PM_handler_31 : decode b_PM_handler 31 = .ok (.getstatic 149, 3) := by decide +kernel
theorem d_PM_handler_34 : decode b_PM_handler 34 = .ok (.arraylength, 1) := by decide +kernel
theorem d_PM_handler_35 : decode b_PM_handler 35 = .ok (.ireturn, 1) := by decide +kernel
set_option maxHeartbeats 4000000 in
set_option maxRecDepth 100000 in
theorem c_PM_handler (l : Launch) (E : Ev) (ad : Nat → Nat) (σ : XS) : rC xCl l E (xW E ad) y_PM_handler b_PM_handler 2 (Option.some Jvm.ClassFile.FieldType.int) (rmo 2 42) [.ref (ad 0)] σ (zI (f_PM_handler σ)) := by
  refine rC.of (by decide) (Nat.le_of_ble_eq_true rfl) ?_
  intro p e s m below meth c A ls hc w hl
  generalize e0 : zI (f_PM_handler σ) = Z
  have hc : Cx xCl E A p s m ([.ref (ad 0)] : List Value).toArray meth c b_PM_handler 2 (Option.some Jvm.ClassFile.FieldType.int) "PageMachine" := hc
  have hx := hc.1
  have hb := hc.2.1
  have ho := hc.2.2.2.2.2.1
  have hT := hc.2.2.2.2.2.2.1
  have hl : lv_has ls 2 [(0, .ref (ad 0))] := hl
  have J2 : ∀ (fuel : Nat) (σ2 : XS) (v2_1 : Int32) , (∃ i : Nat, v2_1 = nI i ∧ i ≤ 7 ∧ i + fuel = 8) → ∀ (H : Heap) (locs : List Loc) (ls : Array Slot), Wd xCl E A s.heap H locs (xW E ad σ2) → lv_has ls 2 [(1, .int v2_1), (0, .ref (ad 0))] → zI (f_PM_handler_2 fuel σ2 v2_1) = Z → W p l e (rmo 2 42) s m ([.ref (ad 0)] : List Value).toArray below meth c H locs 0 0 (MQ below (rQ xCl (xW E ad) E A Z) ([.ref (ad 0)] : List Value).toArray s 0 0 A) (F0 m 2 ls []) := by
    intro fuel
    induction fuel with
    | zero =>
      intro σ2 v2_1 hinv
      exact absurd hinv (fun ⟨i, _, h1, h2⟩ => by omega)
    | succ fuel ih =>
      intro σ2 v2_1 hinv H locs ls w hl e2
      obtain ⟨i, hi, hj1, hj2⟩ := hinv
      refine lv_iload_n hx hb d_PM_handler_2 rfl (lv_at hl 0 rfl) ?_
      refine va_gets hx hb hc.2.2.2.2.2.2.2.2.2.1 w.2.2.1 ho (hT _ mw_261) (fun _ h => h) d_PM_handler_3 ?_
      refine va_tlen (v := 7) hx hb hc.2.2.2.2.2.2.2.2.2.2 w.2.2.1 rfl d_PM_handler_6 ?_
      refine lv_icmp_ge (tgt := 31) hx hb d_PM_handler_7 (by decide) (fun q7 => ?_) (fun q7 => ?_)
      · refine va_gets hx hb hc.2.2.2.2.2.2.2.2.2.1 w.2.2.1 ho (hT _ mw_261) (fun _ h => h) d_PM_handler_31 ?_
        refine va_tlen (v := 7) hx hb hc.2.2.2.2.2.2.2.2.2.2 w.2.2.1 rfl d_PM_handler_34 ?_
        exact rt_i hc w d_PM_handler_35 (by rw [← e2, f_PM_handler_2, if_pos q7] <;> rfl)
      · refine lv_aload_n hx hb d_PM_handler_10 rfl (lv_at hl 1 rfl) ?_
        refine g_PM_memory hc w mw_238 d_PM_handler_11 ?_
        refine lv_iconst (v := 4) hx hb d_PM_handler_14 (by decide) ?_
        refine lv_iload_n hx hb d_PM_handler_15 rfl (lv_at hl 0 rfl) ?_
        refine lv_imul hx hb d_PM_handler_16 ?_
        refine va_gets hx hb hc.2.2.2.2.2.2.2.2.2.1 w.2.2.1 ho (hT _ mw_261) (fun _ h => h) d_PM_handler_17 ?_
        refine lv_iload_n hx hb d_PM_handler_20 rfl (lv_at hl 0 rfl) ?_
        refine va_ti hx hb hc.2.2.2.2.2.2.2.2.2.2 w.2.2.1 ((bd_lt hi (N := 7) rfl q7 (by decide) (by omega)).2.1) rfl d_PM_handler_21 ?_
        refine cVV (rest := []) hc w (c_ME_putWord l E ad σ2 ((4 : Int32) * v2_1) (rhI (Int32.toNatClampNeg v2_1))) kv_ME_putWord mw_263 1 rfl rfl ⟨Nat.le_of_ble_eq_true rfl, Nat.le_of_ble_eq_true rfl⟩ hl.1 rfl (Nat.le_of_ble_eq_true rfl) ⟨Nat.zero_le _, Nat.zero_le _⟩ d_PM_handler_22 (fun z22 H locs hs22 w => ?_)
        refine lv_iinc (v := v2_1 + (1 : Int32)) (lv' := [(1, .int (v2_1 + (1 : Int32))), (0, .ref (ad 0))]) hx hb d_PM_handler_25 hl (k := 0) rfl rfl (by decide) rfl (fun ls hl => ?_)
        refine lv_goto (tgt := 2) hx hb d_PM_handler_28 (by decide) ?_
        exact ih z22 (v2_1 + (1 : Int32)) (⟨i + 1, (bd_lt hi (N := 7) rfl q7 (by decide) (by omega)).2.2, (bd_lt hi (N := 7) rfl q7 (by decide) (by omega)).1, by omega⟩) _ _ _ w (lv_sub hl [0, 1] rfl) (by rw [← e2, f_PM_handler_2, if_neg q7, hs22])
  refine lv_iconst (v := 0) hx hb d_PM_handler_0 (by decide) ?_
  refine lv_istore_n (lv' := [(1, .int (0 : Int32)), (0, .ref (ad 0))]) hx hb d_PM_handler_1 rfl hl (by decide) rfl (fun ls hl => ?_)
  exact J2 8 σ (0 : Int32) (⟨0, rfl, by omega, by omega⟩) _ _ _ w (lv_sub hl [0, 1] rfl) (by rw [← e0, f_PM_handler])
