set_option maxRecDepth 20000 in
theorem mc_obj : Cond.code objectInit ⟨#[0xb1]⟩ 1 none ∈ gt_bl := gt_in (List.mem_of_getElem? (i := 94) rfl) rfl
theorem d_ME_init_0 : decode b_ME_init 0 = .ok (.aload_n 0, 1) := by decide +kernel
theorem d_ME_init_1 : decode b_ME_init 1 = .ok (.invokespecial 1, 3) := by decide +kernel
theorem d_ME_init_4 : decode b_ME_init 4 = .ok (.aload_n 0, 1) := by decide +kernel
theorem d_ME_init_5 : decode b_ME_init 5 = .ok (.ldc 9, 2) := by decide +kernel
theorem d_ME_init_7 : decode b_ME_init 7 = .ok (.newarray .int, 2) := by decide +kernel
theorem d_ME_init_9 : decode b_ME_init 9 = .ok (.putfield 10, 3) := by decide +kernel
theorem d_ME_init_12 : decode b_ME_init 12 = .ok (.return_, 1) := by decide +kernel
theorem ki_ME_init : KI y_ME_init b_ME_init 1 0 := ⟨mc_ME_init, mw_31, mw_2, rfl, by decide +kernel⟩
set_option maxHeartbeats 4000000 in
set_option maxRecDepth 100000 in
theorem c_ME_init (l : Launch) (E : Ev) (h0 : Nat) : kC xCl l E False y_ME_init b_ME_init 1 1 1 65536 12 [.ref h0] [(h0, .inr (1, [.null]))] (fun na => [(h0, .inr (1, [.ref (na 0)])), ((na 0), .inl (E.2.1.1, 65536, .inl (fun _ => 0)))]) := by
  refine kC.of (by decide) rfl (Nat.le_of_ble_eq_true rfl) ?_
  intro p e s m below meth c A ls hc hin hnt w hl
  have hc : Cx xCl E A p s m ([.ref h0] : List Value).toArray meth c b_ME_init 1 none "PageMachine$Memory" := hc
  have hx := hc.1
  have hb := hc.2.1
  have ho := hc.2.2.2.2.2.1
  have hT := hc.2.2.2.2.2.2.1
  have hl : lv_has ls 1 [(0, .ref h0)] := hl
  refine lv_aload_n hx hb d_ME_init_0 rfl (lv_at hl 0 rfl) ?_
  refine k_obj hc mw_33 mw_26 mc_obj hl.1 d_ME_init_1 (Nat.le_of_ble_eq_true rfl) (Nat.le_of_ble_eq_true rfl) ?_
  refine lv_aload_n hx hb d_ME_init_4 rfl (lv_at hl 0 rfl) ?_
  refine lv_ldc (v := 65536) hx hb ho (hT _ mw_34) d_ME_init_5 ?_
  refine k_arrI (N := 65536) hc w mw_39 (by decide) (by decide) (Nat.le_of_ble_eq_true rfl) (Nat.le_of_ble_eq_true rfl) (Nat.le_of_ble_eq_true rfl) d_ME_init_7 (fun q7 H w => ?_)
  have w : Wd xCl E A s.heap H _ [(h0, .inr (1, [.null])), (q7, .inl (E.2.1.1, 65536, .inl (fun _ => 0)))] := w
  refine k_putF (ty := (.array .int)) hc hin w i_ME ty_ME tyok_ME nm_ME 0 rfl rfl 0 (by decide) rfl rfl (by decide +kernel) rfl rfl (Nat.le_of_ble_eq_true rfl) (ws' := [(h0, .inr (1, [.ref q7])), (q7, .inl (E.2.1.1, 65536, .inl (fun _ => 0)))]) rfl mw_35 d_ME_init_9 (fun H locs w => ?_)
  exact k_ret hc (fun k => match k with | 0 => q7 | _ => 0) w (Nat.le_of_ble_eq_true rfl) (Nat.le_of_ble_eq_true rfl) d_ME_init_12
theorem d_SR_init_0 : decode b_SR_init 0 = .ok (.aload_n 0, 1) := by decide +kernel
theorem d_SR_init_1 : decode b_SR_init 1 = .ok (.invokespecial 3, 3) := by decide +kernel
theorem d_SR_init_4 : decode b_SR_init 4 = .ok (.aload_n 0, 1) := by decide +kernel
theorem d_SR_init_5 : decode b_SR_init 5 = .ok (.bipush 32, 2) := by decide +kernel
theorem d_SR_init_7 : decode b_SR_init 7 = .ok (.newarray .int, 2) := by decide +kernel
theorem d_SR_init_9 : decode b_SR_init 9 = .ok (.putfield 11, 3) := by decide +kernel
theorem d_SR_init_12 : decode b_SR_init 12 = .ok (.aload_n 0, 1) := by decide +kernel
theorem d_SR_init_13 : decode b_SR_init 13 = .ok (.getfield 11, 3) := by decide +kernel
theorem d_SR_init_16 : decode b_SR_init 16 = .ok (.iconst 1, 1) := by decide +kernel
theorem d_SR_init_17 : decode b_SR_init 17 = .ok (.bipush 31, 2) := by decide +kernel
theorem d_SR_init_19 : decode b_SR_init 19 = .ok (.iastore, 1) := by decide +kernel
theorem d_SR_init_20 : decode b_SR_init 20 = .ok (.aload_n 0, 1) := by decide +kernel
theorem d_SR_init_21 : decode b_SR_init 21 = .ok (.getfield 11, 3) := by decide +kernel
theorem d_SR_init_24 : decode b_SR_init 24 = .ok (.bipush 15, 2) := by decide +kernel
theorem d_SR_init_26 : decode b_SR_init 26 = .ok (.ldc 15, 2) := by decide +kernel
theorem d_SR_init_28 : decode b_SR_init 28 = .ok (.iastore, 1) := by decide +kernel
theorem d_SR_init_29 : decode b_SR_init 29 = .ok (.return_, 1) := by decide +kernel
theorem ki_SR_init : KI y_SR_init b_SR_init 1 0 := ⟨mc_SR_init, mw_43, mw_3, rfl, by decide +kernel⟩
set_option maxHeartbeats 4000000 in
set_option maxRecDepth 100000 in
theorem c_SR_init (l : Launch) (E : Ev) (h0 : Nat) : kC xCl l E False y_SR_init b_SR_init 1 1 1 32 12 [.ref h0] [(h0, .inr (2, [.null, .int 0, .int 0]))] (fun na => [(h0, .inr (2, [.ref (na 0), .int 0, .int 0])), ((na 0), .inl (E.2.1.1, 32, .inl (upd (upd (fun _ => 0) (Int32.toNatClampNeg (1 : Int32)) (31 : Int32)) (Int32.toNatClampNeg (15 : Int32)) (98304 : Int32))))]) := by
  refine kC.of (by decide) rfl (Nat.le_of_ble_eq_true rfl) ?_
  intro p e s m below meth c A ls hc hin hnt w hl
  have hc : Cx xCl E A p s m ([.ref h0] : List Value).toArray meth c b_SR_init 1 none "PageMachine$SystemRegisters" := hc
  have hx := hc.1
  have hb := hc.2.1
  have ho := hc.2.2.2.2.2.1
  have hT := hc.2.2.2.2.2.2.1
  have hl : lv_has ls 1 [(0, .ref h0)] := hl
  refine lv_aload_n hx hb d_SR_init_0 rfl (lv_at hl 0 rfl) ?_
  refine k_obj hc mw_45 mw_26 mc_obj hl.1 d_SR_init_1 (Nat.le_of_ble_eq_true rfl) (Nat.le_of_ble_eq_true rfl) ?_
  refine lv_aload_n hx hb d_SR_init_4 rfl (lv_at hl 0 rfl) ?_
  refine lv_bipush (v := 32) hx hb d_SR_init_5 (by decide) ?_
  refine k_arrI (N := 32) hc w mw_39 (by decide) (by decide) (Nat.le_of_ble_eq_true rfl) (Nat.le_of_ble_eq_true rfl) (Nat.le_of_ble_eq_true rfl) d_SR_init_7 (fun q7 H w => ?_)
  have w : Wd xCl E A s.heap H _ [(h0, .inr (2, [.null, .int 0, .int 0])), (q7, .inl (E.2.1.1, 32, .inl (fun _ => 0)))] := w
  refine k_putF (ty := (.array .int)) hc hin w i_SR ty_SR tyok_SR nm_SR 0 rfl rfl 0 (by decide) rfl rfl (by decide +kernel) rfl rfl (Nat.le_of_ble_eq_true rfl) (ws' := [(h0, .inr (2, [.ref q7, .int 0, .int 0])), (q7, .inl (E.2.1.1, 32, .inl (fun _ => 0)))]) rfl mw_47 d_SR_init_9 (fun H locs w => ?_)
  refine lv_aload_n hx hb d_SR_init_12 rfl (lv_at hl 0 rfl) ?_
  refine rg (v := .ref q7) hc w i_SR 0 rfl rfl 0 (by decide) rfl mw_47 d_SR_init_13 ?_
  refine lv_iconst (v := 1) hx hb d_SR_init_16 (by decide) ?_
  refine lv_bipush (v := 31) hx hb d_SR_init_17 (by decide) ?_
  refine rs hc w 1 rfl (ws' := [(h0, .inr (2, [.ref q7, .int 0, .int 0])), (q7, .inl (E.2.1.1, 32, .inl (upd (fun _ => 0) (Int32.toNatClampNeg (1 : Int32)) (31 : Int32))))]) rfl (by unfold vp_in; decide) d_SR_init_19 (fun H locs w => ?_)
  refine lv_aload_n hx hb d_SR_init_20 rfl (lv_at hl 0 rfl) ?_
  refine rg (v := .ref q7) hc w i_SR 0 rfl rfl 0 (by decide) rfl mw_47 d_SR_init_21 ?_
  refine lv_bipush (v := 15) hx hb d_SR_init_24 (by decide) ?_
  refine lv_ldc (v := 98304) hx hb ho (hT _ mw_46) d_SR_init_26 ?_
  refine rs hc w 1 rfl (ws' := [(h0, .inr (2, [.ref q7, .int 0, .int 0])), (q7, .inl (E.2.1.1, 32, .inl (upd (upd (fun _ => 0) (Int32.toNatClampNeg (1 : Int32)) (31 : Int32)) (Int32.toNatClampNeg (15 : Int32)) (98304 : Int32))))]) rfl (by unfold vp_in; decide) d_SR_init_28 (fun H locs w => ?_)
  exact k_ret hc (fun k => match k with | 0 => q7 | _ => 0) w (Nat.le_of_ble_eq_true rfl) (Nat.le_of_ble_eq_true rfl) d_SR_init_29
theorem d_TL_init_0 : decode b_TL_init 0 = .ok (.aload_n 0, 1) := by decide +kernel
theorem d_TL_init_1 : decode b_TL_init 1 = .ok (.invokespecial 3, 3) := by decide +kernel
theorem d_TL_init_4 : decode b_TL_init 4 = .ok (.aload_n 0, 1) := by decide +kernel
theorem d_TL_init_5 : decode b_TL_init 5 = .ok (.bipush 32, 2) := by decide +kernel
theorem d_TL_init_7 : decode b_TL_init 7 = .ok (.newarray .int, 2) := by decide +kernel
theorem d_TL_init_9 : decode b_TL_init 9 = .ok (.putfield 11, 3) := by decide +kernel
theorem d_TL_init_12 : decode b_TL_init 12 = .ok (.aload_n 0, 1) := by decide +kernel
theorem d_TL_init_13 : decode b_TL_init 13 = .ok (.bipush 32, 2) := by decide +kernel
theorem d_TL_init_15 : decode b_TL_init 15 = .ok (.newarray .int, 2) := by decide +kernel
theorem d_TL_init_17 : decode b_TL_init 17 = .ok (.putfield 15, 3) := by decide +kernel
theorem d_TL_init_20 : decode b_TL_init 20 = .ok (.aload_n 0, 1) := by decide +kernel
theorem d_TL_init_21 : decode b_TL_init 21 = .ok (.bipush 32, 2) := by decide +kernel
theorem d_TL_init_23 : decode b_TL_init 23 = .ok (.newarray .int, 2) := by decide +kernel
theorem d_TL_init_25 : decode b_TL_init 25 = .ok (.putfield 18, 3) := by decide +kernel
theorem d_TL_init_28 : decode b_TL_init 28 = .ok (.aload_n 0, 1) := by decide +kernel
theorem d_TL_init_29 : decode b_TL_init 29 = .ok (.bipush 32, 2) := by decide +kernel
theorem d_TL_init_31 : decode b_TL_init 31 = .ok (.newarray .int, 2) := by decide +kernel
theorem d_TL_init_33 : decode b_TL_init 33 = .ok (.putfield 21, 3) := by decide +kernel
theorem d_TL_init_36 : decode b_TL_init 36 = .ok (.aload_n 0, 1) := by decide +kernel
theorem d_TL_init_37 : decode b_TL_init 37 = .ok (.bipush 32, 2) := by decide +kernel
theorem d_TL_init_39 : decode b_TL_init 39 = .ok (.newarray .int, 2) := by decide +kernel
theorem d_TL_init_41 : decode b_TL_init 41 = .ok (.putfield 24, 3) := by decide +kernel
theorem d_TL_init_44 : decode b_TL_init 44 = .ok (.return_, 1) := by decide +kernel
theorem ki_TL_init : KI y_TL_init b_TL_init 1 0 := ⟨mc_TL_init, mw_60, mw_4, rfl, by decide +kernel⟩
set_option maxHeartbeats 4000000 in
set_option maxRecDepth 100000 in
theorem c_TL_init (l : Launch) (E : Ev) (h0 : Nat) : kC xCl l E False y_TL_init b_TL_init 1 1 5 160 12 [.ref h0] [(h0, .inr (3, [.null, .null, .null, .null, .null]))] (fun na => [(h0, .inr (3, [.ref (na 0), .ref (na 1), .ref (na 2), .ref (na 3), .ref (na 4)])), ((na 0), .inl (E.2.1.1, 32, .inl (fun _ => 0))), ((na 1), .inl (E.2.1.1, 32, .inl (fun _ => 0))), ((na 2), .inl (E.2.1.1, 32, .inl (fun _ => 0))), ((na 3), .inl (E.2.1.1, 32, .inl (fun _ => 0))), ((na 4), .inl (E.2.1.1, 32, .inl (fun _ => 0)))]) := by
  refine kC.of (by decide) rfl (Nat.le_of_ble_eq_true rfl) ?_
  intro p e s m below meth c A ls hc hin hnt w hl
  have hc : Cx xCl E A p s m ([.ref h0] : List Value).toArray meth c b_TL_init 1 none "PageMachine$Tlb" := hc
  have hx := hc.1
  have hb := hc.2.1
  have ho := hc.2.2.2.2.2.1
  have hT := hc.2.2.2.2.2.2.1
  have hl : lv_has ls 1 [(0, .ref h0)] := hl
  refine lv_aload_n hx hb d_TL_init_0 rfl (lv_at hl 0 rfl) ?_
  refine k_obj hc mw_62 mw_26 mc_obj hl.1 d_TL_init_1 (Nat.le_of_ble_eq_true rfl) (Nat.le_of_ble_eq_true rfl) ?_
  refine lv_aload_n hx hb d_TL_init_4 rfl (lv_at hl 0 rfl) ?_
  refine lv_bipush (v := 32) hx hb d_TL_init_5 (by decide) ?_
  refine k_arrI (N := 32) hc w mw_39 (by decide) (by decide) (Nat.le_of_ble_eq_true rfl) (Nat.le_of_ble_eq_true rfl) (Nat.le_of_ble_eq_true rfl) d_TL_init_7 (fun q7 H w => ?_)
  have w : Wd xCl E A s.heap H _ [(h0, .inr (3, [.null, .null, .null, .null, .null])), (q7, .inl (E.2.1.1, 32, .inl (fun _ => 0)))] := w
  refine k_putF (ty := (.array .int)) hc hin w i_TL ty_TL tyok_TL nm_TL 0 rfl rfl 0 (by decide) rfl rfl (by decide +kernel) rfl rfl (Nat.le_of_ble_eq_true rfl) (ws' := [(h0, .inr (3, [.ref q7, .null, .null, .null, .null])), (q7, .inl (E.2.1.1, 32, .inl (fun _ => 0)))]) rfl mw_63 d_TL_init_9 (fun H locs w => ?_)
  refine lv_aload_n hx hb d_TL_init_12 rfl (lv_at hl 0 rfl) ?_
  refine lv_bipush (v := 32) hx hb d_TL_init_13 (by decide) ?_
  refine k_arrI (N := 32) hc w mw_39 (by decide) (by decide) (Nat.le_of_ble_eq_true rfl) (Nat.le_of_ble_eq_true rfl) (Nat.le_of_ble_eq_true rfl) d_TL_init_15 (fun q15 H w => ?_)
  have w : Wd xCl E A s.heap H _ [(h0, .inr (3, [.ref q7, .null, .null, .null, .null])), (q7, .inl (E.2.1.1, 32, .inl (fun _ => 0))), (q15, .inl (E.2.1.1, 32, .inl (fun _ => 0)))] := w
  refine k_putF (ty := (.array .int)) hc hin w i_TL ty_TL tyok_TL nm_TL 0 rfl rfl 1 (by decide) rfl rfl (by decide +kernel) rfl rfl (Nat.le_of_ble_eq_true rfl) (ws' := [(h0, .inr (3, [.ref q7, .ref q15, .null, .null, .null])), (q7, .inl (E.2.1.1, 32, .inl (fun _ => 0))), (q15, .inl (E.2.1.1, 32, .inl (fun _ => 0)))]) rfl mw_64 d_TL_init_17 (fun H locs w => ?_)
  refine lv_aload_n hx hb d_TL_init_20 rfl (lv_at hl 0 rfl) ?_
  refine lv_bipush (v := 32) hx hb d_TL_init_21 (by decide) ?_
  refine k_arrI (N := 32) hc w mw_39 (by decide) (by decide) (Nat.le_of_ble_eq_true rfl) (Nat.le_of_ble_eq_true rfl) (Nat.le_of_ble_eq_true rfl) d_TL_init_23 (fun q23 H w => ?_)
  have w : Wd xCl E A s.heap H _ [(h0, .inr (3, [.ref q7, .ref q15, .null, .null, .null])), (q7, .inl (E.2.1.1, 32, .inl (fun _ => 0))), (q15, .inl (E.2.1.1, 32, .inl (fun _ => 0))), (q23, .inl (E.2.1.1, 32, .inl (fun _ => 0)))] := w
  refine k_putF (ty := (.array .int)) hc hin w i_TL ty_TL tyok_TL nm_TL 0 rfl rfl 2 (by decide) rfl rfl (by decide +kernel) rfl rfl (Nat.le_of_ble_eq_true rfl) (ws' := [(h0, .inr (3, [.ref q7, .ref q15, .ref q23, .null, .null])), (q7, .inl (E.2.1.1, 32, .inl (fun _ => 0))), (q15, .inl (E.2.1.1, 32, .inl (fun _ => 0))), (q23, .inl (E.2.1.1, 32, .inl (fun _ => 0)))]) rfl mw_65 d_TL_init_25 (fun H locs w => ?_)
  refine lv_aload_n hx hb d_TL_init_28 rfl (lv_at hl 0 rfl) ?_
  refine lv_bipush (v := 32) hx hb d_TL_init_29 (by decide) ?_
  refine k_arrI (N := 32) hc w mw_39 (by decide) (by decide) (Nat.le_of_ble_eq_true rfl) (Nat.le_of_ble_eq_true rfl) (Nat.le_of_ble_eq_true rfl) d_TL_init_31 (fun q31 H w => ?_)
  have w : Wd xCl E A s.heap H _ [(h0, .inr (3, [.ref q7, .ref q15, .ref q23, .null, .null])), (q7, .inl (E.2.1.1, 32, .inl (fun _ => 0))), (q15, .inl (E.2.1.1, 32, .inl (fun _ => 0))), (q23, .inl (E.2.1.1, 32, .inl (fun _ => 0))), (q31, .inl (E.2.1.1, 32, .inl (fun _ => 0)))] := w
  refine k_putF (ty := (.array .int)) hc hin w i_TL ty_TL tyok_TL nm_TL 0 rfl rfl 3 (by decide) rfl rfl (by decide +kernel) rfl rfl (Nat.le_of_ble_eq_true rfl) (ws' := [(h0, .inr (3, [.ref q7, .ref q15, .ref q23, .ref q31, .null])), (q7, .inl (E.2.1.1, 32, .inl (fun _ => 0))), (q15, .inl (E.2.1.1, 32, .inl (fun _ => 0))), (q23, .inl (E.2.1.1, 32, .inl (fun _ => 0))), (q31, .inl (E.2.1.1, 32, .inl (fun _ => 0)))]) rfl mw_66 d_TL_init_33 (fun H locs w => ?_)
  refine lv_aload_n hx hb d_TL_init_36 rfl (lv_at hl 0 rfl) ?_
  refine lv_bipush (v := 32) hx hb d_TL_init_37 (by decide) ?_
  refine k_arrI (N := 32) hc w mw_39 (by decide) (by decide) (Nat.le_of_ble_eq_true rfl) (Nat.le_of_ble_eq_true rfl) (Nat.le_of_ble_eq_true rfl) d_TL_init_39 (fun q39 H w => ?_)
  have w : Wd xCl E A s.heap H _ [(h0, .inr (3, [.ref q7, .ref q15, .ref q23, .ref q31, .null])), (q7, .inl (E.2.1.1, 32, .inl (fun _ => 0))), (q15, .inl (E.2.1.1, 32, .inl (fun _ => 0))), (q23, .inl (E.2.1.1, 32, .inl (fun _ => 0))), (q31, .inl (E.2.1.1, 32, .inl (fun _ => 0))), (q39, .inl (E.2.1.1, 32, .inl (fun _ => 0)))] := w
  refine k_putF (ty := (.array .int)) hc hin w i_TL ty_TL tyok_TL nm_TL 0 rfl rfl 4 (by decide) rfl rfl (by decide +kernel) rfl rfl (Nat.le_of_ble_eq_true rfl) (ws' := [(h0, .inr (3, [.ref q7, .ref q15, .ref q23, .ref q31, .ref q39])), (q7, .inl (E.2.1.1, 32, .inl (fun _ => 0))), (q15, .inl (E.2.1.1, 32, .inl (fun _ => 0))), (q23, .inl (E.2.1.1, 32, .inl (fun _ => 0))), (q31, .inl (E.2.1.1, 32, .inl (fun _ => 0))), (q39, .inl (E.2.1.1, 32, .inl (fun _ => 0)))]) rfl mw_67 d_TL_init_41 (fun H locs w => ?_)
  exact k_ret hc (fun k => match k with | 0 => q7 | 1 => q15 | 2 => q23 | 3 => q31 | 4 => q39 | _ => 0) w (Nat.le_of_ble_eq_true rfl) (Nat.le_of_ble_eq_true rfl) d_TL_init_44
theorem d_AS_init_0 : decode b_AS_init 0 = .ok (.aload_n 0, 1) := by decide +kernel
theorem d_AS_init_1 : decode b_AS_init 1 = .ok (.invokespecial 3, 3) := by decide +kernel
theorem d_AS_init_4 : decode b_AS_init 4 = .ok (.aload_n 0, 1) := by decide +kernel
theorem d_AS_init_5 : decode b_AS_init 5 = .ok (.aload_n 1, 1) := by decide +kernel
theorem d_AS_init_6 : decode b_AS_init 6 = .ok (.putfield 9, 3) := by decide +kernel
theorem d_AS_init_9 : decode b_AS_init 9 = .ok (.aload_n 0, 1) := by decide +kernel
theorem d_AS_init_10 : decode b_AS_init 10 = .ok (.aload_n 2, 1) := by decide +kernel
theorem d_AS_init_11 : decode b_AS_init 11 = .ok (.putfield 15, 3) := by decide +kernel
theorem d_AS_init_14 : decode b_AS_init 14 = .ok (.aload_n 0, 1) := by decide +kernel
theorem d_AS_init_15 : decode b_AS_init 15 = .ok (.aload_n 3, 1) := by decide +kernel
theorem d_AS_init_16 : decode b_AS_init 16 = .ok (.putfield 19, 3) := by decide +kernel
theorem d_AS_init_19 : decode b_AS_init 19 = .ok (.return_, 1) := by decide +kernel
theorem ki_AS_init : KI y_AS_init b_AS_init 4 3 := ⟨mc_AS_init, mw_82, mw_5, rfl, by decide +kernel⟩
set_option maxHeartbeats 4000000 in
set_option maxRecDepth 100000 in
theorem c_AS_init (l : Launch) (E : Ev) (h0 : Nat) (p1 : Nat) (p2 : Nat) (p3 : Nat) : kC xCl l E False y_AS_init b_AS_init 4 1 0 0 12 [.ref h0, .ref p1, .ref p2, .ref p3] [(h0, .inr (4, [.null, .null, .null, .int 0]))] (fun na => [(h0, .inr (4, [.ref p1, .ref p2, .ref p3, .int 0]))]) := by
  refine kC.of (by decide) rfl (Nat.le_of_ble_eq_true rfl) ?_
  intro p e s m below meth c A ls hc hin hnt w hl
  have hc : Cx xCl E A p s m ([.ref h0, .ref p1, .ref p2, .ref p3] : List Value).toArray meth c b_AS_init 4 none "PageMachine$AddressSpace" := hc
  have hx := hc.1
  have hb := hc.2.1
  have ho := hc.2.2.2.2.2.1
  have hT := hc.2.2.2.2.2.2.1
  have hl : lv_has ls 4 [(0, .ref h0), (1, .ref p1), (2, .ref p2), (3, .ref p3)] := hl
  refine lv_aload_n hx hb d_AS_init_0 rfl (lv_at hl 0 rfl) ?_
  refine k_obj hc mw_84 mw_26 mc_obj hl.1 d_AS_init_1 (Nat.le_of_ble_eq_true rfl) (Nat.le_of_ble_eq_true rfl) ?_
  refine lv_aload_n hx hb d_AS_init_4 rfl (lv_at hl 0 rfl) ?_
  refine lv_aload_n hx hb d_AS_init_5 rfl (lv_at hl 1 rfl) ?_
  refine k_putF (ty := (.object "PageMachine$Memory")) hc hin w i_AS ty_AS tyok_AS nm_AS 0 rfl rfl 0 (by decide) rfl rfl (by decide +kernel) rfl rfl (Nat.le_of_ble_eq_true rfl) (ws' := [(h0, .inr (4, [.ref p1, .null, .null, .int 0]))]) rfl mw_85 d_AS_init_6 (fun H locs w => ?_)
  refine lv_aload_n hx hb d_AS_init_9 rfl (lv_at hl 0 rfl) ?_
  refine lv_aload_n hx hb d_AS_init_10 rfl (lv_at hl 2 rfl) ?_
  refine k_putF (ty := (.object "PageMachine$SystemRegisters")) hc hin w i_AS ty_AS tyok_AS nm_AS 0 rfl rfl 1 (by decide) rfl rfl (by decide +kernel) rfl rfl (Nat.le_of_ble_eq_true rfl) (ws' := [(h0, .inr (4, [.ref p1, .ref p2, .null, .int 0]))]) rfl mw_86 d_AS_init_11 (fun H locs w => ?_)
  refine lv_aload_n hx hb d_AS_init_14 rfl (lv_at hl 0 rfl) ?_
  refine lv_aload_n hx hb d_AS_init_15 rfl (lv_at hl 3 rfl) ?_
  refine k_putF (ty := (.object "PageMachine$Tlb")) hc hin w i_AS ty_AS tyok_AS nm_AS 0 rfl rfl 2 (by decide) rfl rfl (by decide +kernel) rfl rfl (Nat.le_of_ble_eq_true rfl) (ws' := [(h0, .inr (4, [.ref p1, .ref p2, .ref p3, .int 0]))]) rfl mw_87 d_AS_init_16 (fun H locs w => ?_)
  exact k_ret hc (fun _ => 0) w (Nat.le_of_ble_eq_true rfl) (Nat.le_of_ble_eq_true rfl) d_AS_init_19
theorem d_CO_init_0 : decode b_CO_init 0 = .ok (.aload_n 0, 1) := by decide +kernel
theorem d_CO_init_1 : decode b_CO_init 1 = .ok (.invokespecial 1, 3) := by decide +kernel
theorem d_CO_init_4 : decode b_CO_init 4 = .ok (.aload_n 0, 1) := by decide +kernel
theorem d_CO_init_5 : decode b_CO_init 5 = .ok (.ldc 7, 2) := by decide +kernel
theorem d_CO_init_7 : decode b_CO_init 7 = .ok (.putfield 8, 3) := by decide +kernel
theorem d_CO_init_10 : decode b_CO_init 10 = .ok (.aload_n 0, 1) := by decide +kernel
theorem d_CO_init_11 : decode b_CO_init 11 = .ok (.bipush 32, 2) := by decide +kernel
theorem d_CO_init_13 : decode b_CO_init 13 = .ok (.newarray .int, 2) := by decide +kernel
theorem d_CO_init_15 : decode b_CO_init 15 = .ok (.putfield 14, 3) := by decide +kernel
theorem d_CO_init_18 : decode b_CO_init 18 = .ok (.return_, 1) := by decide +kernel
theorem ki_CO_init : KI y_CO_init b_CO_init 1 0 := ⟨mc_CO_init, mw_101, mw_6, rfl, by decide +kernel⟩
set_option maxHeartbeats 4000000 in
set_option maxRecDepth 100000 in
theorem c_CO_init (l : Launch) (E : Ev) (h0 : Nat) : kC xCl l E False y_CO_init b_CO_init 1 1 1 32 12 [.ref h0] [(h0, .inr (5, [.int 0, .int 0, .int 0, .int 0, .int 0, .null, .int 0, .int 0, .int 0, .int 0]))] (fun na => [(h0, .inr (5, [.int 0, .int 0, .int (-2147483648 : Int32), .int 0, .int 0, .ref (na 0), .int 0, .int 0, .int 0, .int 0])), ((na 0), .inl (E.2.1.1, 32, .inl (fun _ => 0)))]) := by
  refine kC.of (by decide) rfl (Nat.le_of_ble_eq_true rfl) ?_
  intro p e s m below meth c A ls hc hin hnt w hl
  have hc : Cx xCl E A p s m ([.ref h0] : List Value).toArray meth c b_CO_init 1 none "PageMachine$Core" := hc
  have hx := hc.1
  have hb := hc.2.1
  have ho := hc.2.2.2.2.2.1
  have hT := hc.2.2.2.2.2.2.1
  have hl : lv_has ls 1 [(0, .ref h0)] := hl
  refine lv_aload_n hx hb d_CO_init_0 rfl (lv_at hl 0 rfl) ?_
  refine k_obj hc mw_103 mw_26 mc_obj hl.1 d_CO_init_1 (Nat.le_of_ble_eq_true rfl) (Nat.le_of_ble_eq_true rfl) ?_
  refine lv_aload_n hx hb d_CO_init_4 rfl (lv_at hl 0 rfl) ?_
  refine lv_ldc (v := -2147483648) hx hb ho (hT _ mw_104) d_CO_init_5 ?_
  refine rp (ty := (.int)) hc w i_CO ty_CO tyok_CO nm_CO 0 rfl rfl 2 (by decide) rfl (by decide +kernel) rfl rfl (Nat.le_of_ble_eq_true rfl) (ws' := [(h0, .inr (5, [.int 0, .int 0, .int (-2147483648 : Int32), .int 0, .int 0, .null, .int 0, .int 0, .int 0, .int 0]))]) rfl mw_111 d_CO_init_7 (fun H locs w => ?_)
  refine lv_aload_n hx hb d_CO_init_10 rfl (lv_at hl 0 rfl) ?_
  refine lv_bipush (v := 32) hx hb d_CO_init_11 (by decide) ?_
  refine k_arrI (N := 32) hc w mw_39 (by decide) (by decide) (Nat.le_of_ble_eq_true rfl) (Nat.le_of_ble_eq_true rfl) (Nat.le_of_ble_eq_true rfl) d_CO_init_13 (fun q13 H w => ?_)
  have w : Wd xCl E A s.heap H _ [(h0, .inr (5, [.int 0, .int 0, .int (-2147483648 : Int32), .int 0, .int 0, .null, .int 0, .int 0, .int 0, .int 0])), (q13, .inl (E.2.1.1, 32, .inl (fun _ => 0)))] := w
  refine k_putF (ty := (.array .int)) hc hin w i_CO ty_CO tyok_CO nm_CO 0 rfl rfl 5 (by decide) rfl rfl (by decide +kernel) rfl rfl (Nat.le_of_ble_eq_true rfl) (ws' := [(h0, .inr (5, [.int 0, .int 0, .int (-2147483648 : Int32), .int 0, .int 0, .ref q13, .int 0, .int 0, .int 0, .int 0])), (q13, .inl (E.2.1.1, 32, .inl (fun _ => 0)))]) rfl mw_123 d_CO_init_15 (fun H locs w => ?_)
  exact k_ret hc (fun k => match k with | 0 => q13 | _ => 0) w (Nat.le_of_ble_eq_true rfl) (Nat.le_of_ble_eq_true rfl) d_CO_init_18
theorem d_AR_init_0 : decode b_AR_init 0 = .ok (.aload_n 0, 1) := by decide +kernel
theorem d_AR_init_1 : decode b_AR_init 1 = .ok (.invokespecial 1, 3) := by decide +kernel
theorem d_AR_init_4 : decode b_AR_init 4 = .ok (.aload_n 0, 1) := by decide +kernel
theorem d_AR_init_5 : decode b_AR_init 5 = .ok (.aload_n 1, 1) := by decide +kernel
theorem d_AR_init_6 : decode b_AR_init 6 = .ok (.putfield 7, 3) := by decide +kernel
theorem d_AR_init_9 : decode b_AR_init 9 = .ok (.return_, 1) := by decide +kernel
theorem ki_AR_init : KI y_AR_init b_AR_init 2 1 := ⟨mc_AR_init, mw_158, mw_8, rfl, by decide +kernel⟩
set_option maxHeartbeats 4000000 in
set_option maxRecDepth 100000 in
theorem c_AR_init (l : Launch) (E : Ev) (h0 : Nat) (p1 : Nat) : kC xCl l E False y_AR_init b_AR_init 2 1 0 0 12 [.ref h0, .ref p1] [(h0, .inr (7, [.null]))] (fun na => [(h0, .inr (7, [.ref p1]))]) := by
  refine kC.of (by decide) rfl (Nat.le_of_ble_eq_true rfl) ?_
  intro p e s m below meth c A ls hc hin hnt w hl
  have hc : Cx xCl E A p s m ([.ref h0, .ref p1] : List Value).toArray meth c b_AR_init 2 none "PageMachine$Arithmetic" := hc
  have hx := hc.1
  have hb := hc.2.1
  have ho := hc.2.2.2.2.2.1
  have hT := hc.2.2.2.2.2.2.1
  have hl : lv_has ls 2 [(0, .ref h0), (1, .ref p1)] := hl
  refine lv_aload_n hx hb d_AR_init_0 rfl (lv_at hl 0 rfl) ?_
  refine k_obj hc mw_160 mw_26 mc_obj hl.1 d_AR_init_1 (Nat.le_of_ble_eq_true rfl) (Nat.le_of_ble_eq_true rfl) ?_
  refine lv_aload_n hx hb d_AR_init_4 rfl (lv_at hl 0 rfl) ?_
  refine lv_aload_n hx hb d_AR_init_5 rfl (lv_at hl 1 rfl) ?_
  refine k_putF (ty := (.object "PageMachine$Core")) hc hin w i_AR ty_AR tyok_AR nm_AR 0 rfl rfl 0 (by decide) rfl rfl (by decide +kernel) rfl rfl (Nat.le_of_ble_eq_true rfl) (ws' := [(h0, .inr (7, [.ref p1]))]) rfl mw_161 d_AR_init_6 (fun H locs w => ?_)
  exact k_ret hc (fun _ => 0) w (Nat.le_of_ble_eq_true rfl) (Nat.le_of_ble_eq_true rfl) d_AR_init_9
theorem d_BR_init_0 : decode b_BR_init 0 = .ok (.aload_n 0, 1) := by decide +kernel
theorem d_BR_init_1 : decode b_BR_init 1 = .ok (.invokespecial 1, 3) := by decide +kernel
theorem d_BR_init_4 : decode b_BR_init 4 = .ok (.aload_n 0, 1) := by decide +kernel
theorem d_BR_init_5 : decode b_BR_init 5 = .ok (.aload_n 1, 1) := by decide +kernel
theorem d_BR_init_6 : decode b_BR_init 6 = .ok (.putfield 7, 3) := by decide +kernel
theorem d_BR_init_9 : decode b_BR_init 9 = .ok (.return_, 1) := by decide +kernel
theorem ki_BR_init : KI y_BR_init b_BR_init 2 1 := ⟨mc_BR_init, mw_168, mw_9, rfl, by decide +kernel⟩
set_option maxHeartbeats 4000000 in
set_option maxRecDepth 100000 in
theorem c_BR_init (l : Launch) (E : Ev) (h0 : Nat) (p1 : Nat) : kC xCl l E False y_BR_init b_BR_init 2 1 0 0 12 [.ref h0, .ref p1] [(h0, .inr (8, [.null]))] (fun na => [(h0, .inr (8, [.ref p1]))]) := by
  refine kC.of (by decide) rfl (Nat.le_of_ble_eq_true rfl) ?_
  intro p e s m below meth c A ls hc hin hnt w hl
  have hc : Cx xCl E A p s m ([.ref h0, .ref p1] : List Value).toArray meth c b_BR_init 2 none "PageMachine$Branches" := hc
  have hx := hc.1
  have hb := hc.2.1
  have ho := hc.2.2.2.2.2.1
  have hT := hc.2.2.2.2.2.2.1
  have hl : lv_has ls 2 [(0, .ref h0), (1, .ref p1)] := hl
  refine lv_aload_n hx hb d_BR_init_0 rfl (lv_at hl 0 rfl) ?_
  refine k_obj hc mw_170 mw_26 mc_obj hl.1 d_BR_init_1 (Nat.le_of_ble_eq_true rfl) (Nat.le_of_ble_eq_true rfl) ?_
  refine lv_aload_n hx hb d_BR_init_4 rfl (lv_at hl 0 rfl) ?_
  refine lv_aload_n hx hb d_BR_init_5 rfl (lv_at hl 1 rfl) ?_
  refine k_putF (ty := (.object "PageMachine$Core")) hc hin w i_BR ty_BR tyok_BR nm_BR 0 rfl rfl 0 (by decide) rfl rfl (by decide +kernel) rfl rfl (Nat.le_of_ble_eq_true rfl) (ws' := [(h0, .inr (8, [.ref p1]))]) rfl mw_171 d_BR_init_6 (fun H locs w => ?_)
  exact k_ret hc (fun _ => 0) w (Nat.le_of_ble_eq_true rfl) (Nat.le_of_ble_eq_true rfl) d_BR_init_9
theorem d_LS_init_0 : decode b_LS_init 0 = .ok (.aload_n 0, 1) := by decide +kernel
theorem d_LS_init_1 : decode b_LS_init 1 = .ok (.invokespecial 1, 3) := by decide +kernel
theorem d_LS_init_4 : decode b_LS_init 4 = .ok (.aload_n 0, 1) := by decide +kernel
theorem d_LS_init_5 : decode b_LS_init 5 = .ok (.aload_n 1, 1) := by decide +kernel
theorem d_LS_init_6 : decode b_LS_init 6 = .ok (.putfield 7, 3) := by decide +kernel
theorem d_LS_init_9 : decode b_LS_init 9 = .ok (.aload_n 0, 1) := by decide +kernel
theorem d_LS_init_10 : decode b_LS_init 10 = .ok (.aload_n 2, 1) := by decide +kernel
theorem d_LS_init_11 : decode b_LS_init 11 = .ok (.putfield 13, 3) := by decide +kernel
theorem d_LS_init_14 : decode b_LS_init 14 = .ok (.aload_n 0, 1) := by decide +kernel
theorem d_LS_init_15 : decode b_LS_init 15 = .ok (.aload_n 3, 1) := by decide +kernel
theorem d_LS_init_16 : decode b_LS_init 16 = .ok (.putfield 17, 3) := by decide +kernel
theorem d_LS_init_19 : decode b_LS_init 19 = .ok (.return_, 1) := by decide +kernel
theorem ki_LS_init : KI y_LS_init b_LS_init 4 3 := ⟨mc_LS_init, mw_178, mw_10, rfl, by decide +kernel⟩
set_option maxHeartbeats 4000000 in
set_option maxRecDepth 100000 in
theorem c_LS_init (l : Launch) (E : Ev) (h0 : Nat) (p1 : Nat) (p2 : Nat) (p3 : Nat) : kC xCl l E False y_LS_init b_LS_init 4 1 0 0 12 [.ref h0, .ref p1, .ref p2, .ref p3] [(h0, .inr (9, [.null, .null, .null]))] (fun na => [(h0, .inr (9, [.ref p1, .ref p2, .ref p3]))]) := by
  refine kC.of (by decide) rfl (Nat.le_of_ble_eq_true rfl) ?_
  intro p e s m below meth c A ls hc hin hnt w hl
  have hc : Cx xCl E A p s m ([.ref h0, .ref p1, .ref p2, .ref p3] : List Value).toArray meth c b_LS_init 4 none "PageMachine$LoadsAndStores" := hc
  have hx := hc.1
  have hb := hc.2.1
  have ho := hc.2.2.2.2.2.1
  have hT := hc.2.2.2.2.2.2.1
  have hl : lv_has ls 4 [(0, .ref h0), (1, .ref p1), (2, .ref p2), (3, .ref p3)] := hl
  refine lv_aload_n hx hb d_LS_init_0 rfl (lv_at hl 0 rfl) ?_
  refine k_obj hc mw_180 mw_26 mc_obj hl.1 d_LS_init_1 (Nat.le_of_ble_eq_true rfl) (Nat.le_of_ble_eq_true rfl) ?_
  refine lv_aload_n hx hb d_LS_init_4 rfl (lv_at hl 0 rfl) ?_
  refine lv_aload_n hx hb d_LS_init_5 rfl (lv_at hl 1 rfl) ?_
  refine k_putF (ty := (.object "PageMachine$Core")) hc hin w i_LS ty_LS tyok_LS nm_LS 0 rfl rfl 0 (by decide) rfl rfl (by decide +kernel) rfl rfl (Nat.le_of_ble_eq_true rfl) (ws' := [(h0, .inr (9, [.ref p1, .null, .null]))]) rfl mw_181 d_LS_init_6 (fun H locs w => ?_)
  refine lv_aload_n hx hb d_LS_init_9 rfl (lv_at hl 0 rfl) ?_
  refine lv_aload_n hx hb d_LS_init_10 rfl (lv_at hl 2 rfl) ?_
  refine k_putF (ty := (.object "PageMachine$Memory")) hc hin w i_LS ty_LS tyok_LS nm_LS 0 rfl rfl 1 (by decide) rfl rfl (by decide +kernel) rfl rfl (Nat.le_of_ble_eq_true rfl) (ws' := [(h0, .inr (9, [.ref p1, .ref p2, .null]))]) rfl mw_182 d_LS_init_11 (fun H locs w => ?_)
  refine lv_aload_n hx hb d_LS_init_14 rfl (lv_at hl 0 rfl) ?_
  refine lv_aload_n hx hb d_LS_init_15 rfl (lv_at hl 3 rfl) ?_
  refine k_putF (ty := (.object "PageMachine$AddressSpace")) hc hin w i_LS ty_LS tyok_LS nm_LS 0 rfl rfl 2 (by decide) rfl rfl (by decide +kernel) rfl rfl (Nat.le_of_ble_eq_true rfl) (ws' := [(h0, .inr (9, [.ref p1, .ref p2, .ref p3]))]) rfl mw_183 d_LS_init_16 (fun H locs w => ?_)
  exact k_ret hc (fun _ => 0) w (Nat.le_of_ble_eq_true rfl) (Nat.le_of_ble_eq_true rfl) d_LS_init_19
theorem d_CP_init_0 : decode b_CP_init 0 = .ok (.aload_n 0, 1) := by decide +kernel
theorem d_CP_init_1 : decode b_CP_init 1 = .ok (.invokespecial 1, 3) := by decide +kernel
theorem d_CP_init_4 : decode b_CP_init 4 = .ok (.aload_n 0, 1) := by decide +kernel
theorem d_CP_init_5 : decode b_CP_init 5 = .ok (.aload_n 1, 1) := by decide +kernel
theorem d_CP_init_6 : decode b_CP_init 6 = .ok (.putfield 7, 3) := by decide +kernel
theorem d_CP_init_9 : decode b_CP_init 9 = .ok (.aload_n 0, 1) := by decide +kernel
theorem d_CP_init_10 : decode b_CP_init 10 = .ok (.aload_n 2, 1) := by decide +kernel
theorem d_CP_init_11 : decode b_CP_init 11 = .ok (.putfield 13, 3) := by decide +kernel
theorem d_CP_init_14 : decode b_CP_init 14 = .ok (.aload_n 0, 1) := by decide +kernel
theorem d_CP_init_15 : decode b_CP_init 15 = .ok (.aload_n 3, 1) := by decide +kernel
theorem d_CP_init_16 : decode b_CP_init 16 = .ok (.putfield 17, 3) := by decide +kernel
theorem d_CP_init_19 : decode b_CP_init 19 = .ok (.return_, 1) := by decide +kernel
theorem ki_CP_init : KI y_CP_init b_CP_init 4 3 := ⟨mc_CP_init, mw_194, mw_11, rfl, by decide +kernel⟩
set_option maxHeartbeats 4000000 in
set_option maxRecDepth 100000 in
theorem c_CP_init (l : Launch) (E : Ev) (h0 : Nat) (p1 : Nat) (p2 : Nat) (p3 : Nat) : kC xCl l E False y_CP_init b_CP_init 4 1 0 0 12 [.ref h0, .ref p1, .ref p2, .ref p3] [(h0, .inr (10, [.null, .null, .null]))] (fun na => [(h0, .inr (10, [.ref p1, .ref p2, .ref p3]))]) := by
  refine kC.of (by decide) rfl (Nat.le_of_ble_eq_true rfl) ?_
  intro p e s m below meth c A ls hc hin hnt w hl
  have hc : Cx xCl E A p s m ([.ref h0, .ref p1, .ref p2, .ref p3] : List Value).toArray meth c b_CP_init 4 none "PageMachine$Coprocessor" := hc
  have hx := hc.1
  have hb := hc.2.1
  have ho := hc.2.2.2.2.2.1
  have hT := hc.2.2.2.2.2.2.1
  have hl : lv_has ls 4 [(0, .ref h0), (1, .ref p1), (2, .ref p2), (3, .ref p3)] := hl
  refine lv_aload_n hx hb d_CP_init_0 rfl (lv_at hl 0 rfl) ?_
  refine k_obj hc mw_196 mw_26 mc_obj hl.1 d_CP_init_1 (Nat.le_of_ble_eq_true rfl) (Nat.le_of_ble_eq_true rfl) ?_
  refine lv_aload_n hx hb d_CP_init_4 rfl (lv_at hl 0 rfl) ?_
  refine lv_aload_n hx hb d_CP_init_5 rfl (lv_at hl 1 rfl) ?_
  refine k_putF (ty := (.object "PageMachine$Core")) hc hin w i_CP ty_CP tyok_CP nm_CP 0 rfl rfl 0 (by decide) rfl rfl (by decide +kernel) rfl rfl (Nat.le_of_ble_eq_true rfl) (ws' := [(h0, .inr (10, [.ref p1, .null, .null]))]) rfl mw_197 d_CP_init_6 (fun H locs w => ?_)
  refine lv_aload_n hx hb d_CP_init_9 rfl (lv_at hl 0 rfl) ?_
  refine lv_aload_n hx hb d_CP_init_10 rfl (lv_at hl 2 rfl) ?_
  refine k_putF (ty := (.object "PageMachine$SystemRegisters")) hc hin w i_CP ty_CP tyok_CP nm_CP 0 rfl rfl 1 (by decide) rfl rfl (by decide +kernel) rfl rfl (Nat.le_of_ble_eq_true rfl) (ws' := [(h0, .inr (10, [.ref p1, .ref p2, .null]))]) rfl mw_198 d_CP_init_11 (fun H locs w => ?_)
  refine lv_aload_n hx hb d_CP_init_14 rfl (lv_at hl 0 rfl) ?_
  refine lv_aload_n hx hb d_CP_init_15 rfl (lv_at hl 3 rfl) ?_
  refine k_putF (ty := (.object "PageMachine$Tlb")) hc hin w i_CP ty_CP tyok_CP nm_CP 0 rfl rfl 2 (by decide) rfl rfl (by decide +kernel) rfl rfl (Nat.le_of_ble_eq_true rfl) (ws' := [(h0, .inr (10, [.ref p1, .ref p2, .ref p3]))]) rfl mw_199 d_CP_init_16 (fun H locs w => ?_)
  exact k_ret hc (fun _ => 0) w (Nat.le_of_ble_eq_true rfl) (Nat.le_of_ble_eq_true rfl) d_CP_init_19
theorem d_PR_init_0 : decode b_PR_init 0 = .ok (.aload_n 0, 1) := by decide +kernel
theorem d_PR_init_1 : decode b_PR_init 1 = .ok (.invokespecial 1, 3) := by decide +kernel
theorem d_PR_init_4 : decode b_PR_init 4 = .ok (.aload_n 0, 1) := by decide +kernel
theorem d_PR_init_5 : decode b_PR_init 5 = .ok (.bipush 14, 2) := by decide +kernel
theorem d_PR_init_7 : decode b_PR_init 7 = .ok (.newarray .int, 2) := by decide +kernel
theorem d_PR_init_9 : decode b_PR_init 9 = .ok (.putfield 9, 3) := by decide +kernel
theorem d_PR_init_12 : decode b_PR_init 12 = .ok (.aload_n 0, 1) := by decide +kernel
theorem d_PR_init_13 : decode b_PR_init 13 = .ok (.aload_n 1, 1) := by decide +kernel
theorem d_PR_init_14 : decode b_PR_init 14 = .ok (.putfield 15, 3) := by decide +kernel
theorem d_PR_init_17 : decode b_PR_init 17 = .ok (.aload_n 0, 1) := by decide +kernel
theorem d_PR_init_18 : decode b_PR_init 18 = .ok (.aload_n 2, 1) := by decide +kernel
theorem d_PR_init_19 : decode b_PR_init 19 = .ok (.putfield 19, 3) := by decide +kernel
theorem d_PR_init_22 : decode b_PR_init 22 = .ok (.aload_n 0, 1) := by decide +kernel
theorem d_PR_init_23 : decode b_PR_init 23 = .ok (.aload_n 3, 1) := by decide +kernel
theorem d_PR_init_24 : decode b_PR_init 24 = .ok (.putfield 23, 3) := by decide +kernel
theorem d_PR_init_27 : decode b_PR_init 27 = .ok (.aload_n 0, 1) := by decide +kernel
theorem d_PR_init_28 : decode b_PR_init 28 = .ok (.aload 5, 2) := by decide +kernel
theorem d_PR_init_30 : decode b_PR_init 30 = .ok (.putfield 27, 3) := by decide +kernel
theorem d_PR_init_33 : decode b_PR_init 33 = .ok (.aload_n 0, 1) := by decide +kernel
theorem d_PR_init_34 : decode b_PR_init 34 = .ok (.new 31, 3) := by decide +kernel
theorem d_PR_init_37 : decode b_PR_init 37 = .ok (.dup, 1) := by decide +kernel
theorem d_PR_init_38 : decode b_PR_init 38 = .ok (.aload_n 1, 1) := by decide +kernel
theorem d_PR_init_39 : decode b_PR_init 39 = .ok (.invokespecial 33, 3) := by decide +kernel
theorem d_PR_init_42 : decode b_PR_init 42 = .ok (.putfield 36, 3) := by decide +kernel
theorem d_PR_init_45 : decode b_PR_init 45 = .ok (.aload_n 0, 1) := by decide +kernel
theorem d_PR_init_46 : decode b_PR_init 46 = .ok (.new 40, 3) := by decide +kernel
theorem d_PR_init_49 : decode b_PR_init 49 = .ok (.dup, 1) := by decide +kernel
theorem d_PR_init_50 : decode b_PR_init 50 = .ok (.aload_n 1, 1) := by decide +kernel
theorem d_PR_init_51 : decode b_PR_init 51 = .ok (.invokespecial 42, 3) := by decide +kernel
theorem d_PR_init_54 : decode b_PR_init 54 = .ok (.putfield 43, 3) := by decide +kernel
theorem d_PR_init_57 : decode b_PR_init 57 = .ok (.aload_n 0, 1) := by decide +kernel
theorem d_PR_init_58 : decode b_PR_init 58 = .ok (.new 47, 3) := by decide +kernel
theorem d_PR_init_61 : decode b_PR_init 61 = .ok (.dup, 1) := by decide +kernel
theorem d_PR_init_62 : decode b_PR_init 62 = .ok (.aload_n 1, 1) := by decide +kernel
theorem d_PR_init_63 : decode b_PR_init 63 = .ok (.aload_n 2, 1) := by decide +kernel
theorem d_PR_init_64 : decode b_PR_init 64 = .ok (.aload 5, 2) := by decide +kernel
theorem d_PR_init_66 : decode b_PR_init 66 = .ok (.invokespecial 49, 3) := by decide +kernel
theorem d_PR_init_69 : decode b_PR_init 69 = .ok (.putfield 52, 3) := by decide +kernel
theorem d_PR_init_72 : decode b_PR_init 72 = .ok (.aload_n 0, 1) := by decide +kernel
theorem d_PR_init_73 : decode b_PR_init 73 = .ok (.new 56, 3) := by decide +kernel
theorem d_PR_init_76 : decode b_PR_init 76 = .ok (.dup, 1) := by decide +kernel
theorem d_PR_init_77 : decode b_PR_init 77 = .ok (.aload_n 1, 1) := by decide +kernel
theorem d_PR_init_78 : decode b_PR_init 78 = .ok (.aload_n 3, 1) := by decide +kernel
theorem d_PR_init_79 : decode b_PR_init 79 = .ok (.aload 4, 2) := by decide +kernel
theorem d_PR_init_81 : decode b_PR_init 81 = .ok (.invokespecial 58, 3) := by decide +kernel
theorem d_PR_init_84 : decode b_PR_init 84 = .ok (.putfield 61, 3) := by decide +kernel
theorem d_PR_init_87 : decode b_PR_init 87 = .ok (.return_, 1) := by decide +kernel
theorem ki_PR_init : KI y_PR_init b_PR_init 6 5 := ⟨mc_PR_init, mw_152, mw_7, rfl, by decide +kernel⟩
set_option maxHeartbeats 4000000 in
set_option maxRecDepth 100000 in
theorem c_PR_init (l : Launch) (E : Ev) (h0 : Nat) (p1 : Nat) (p2 : Nat) (p3 : Nat) (p4 : Nat) (p5 : Nat) : kC xCl l E False y_PR_init b_PR_init 6 2 5 22 35 [.ref h0, .ref p1, .ref p2, .ref p3, .ref p4, .ref p5] [(h0, .inr (6, [.null, .null, .null, .null, .null, .null, .null, .null, .null, .int 0]))] (fun na => [(h0, .inr (6, [.ref p1, .ref p2, .ref p3, .ref p5, .ref (na 1), .ref (na 2), .ref (na 3), .ref (na 4), .ref (na 0), .int 0])), ((na 0), .inl (E.2.1.1, 14, .inl (fun _ => 0))), ((na 1), .inr (7, [.ref p1])), ((na 2), .inr (8, [.ref p1])), ((na 3), .inr (9, [.ref p1, .ref p2, .ref p5])), ((na 4), .inr (10, [.ref p1, .ref p3, .ref p4]))]) := by
  refine kC.of (by decide) rfl (Nat.le_of_ble_eq_true rfl) ?_
  intro p e s m below meth c A ls hc hin hnt w hl
  have hc : Cx xCl E A p s m ([.ref h0, .ref p1, .ref p2, .ref p3, .ref p4, .ref p5] : List Value).toArray meth c b_PR_init 6 none "PageMachine$Processor" := hc
  have hx := hc.1
  have hb := hc.2.1
  have ho := hc.2.2.2.2.2.1
  have hT := hc.2.2.2.2.2.2.1
  have hl : lv_has ls 6 [(0, .ref h0), (1, .ref p1), (2, .ref p2), (3, .ref p3), (4, .ref p4), (5, .ref p5)] := hl
  refine lv_aload_n hx hb d_PR_init_0 rfl (lv_at hl 0 rfl) ?_
  refine k_obj hc mw_154 mw_26 mc_obj hl.1 d_PR_init_1 (Nat.le_of_ble_eq_true rfl) (Nat.le_of_ble_eq_true rfl) ?_
  refine lv_aload_n hx hb d_PR_init_4 rfl (lv_at hl 0 rfl) ?_
  refine lv_bipush (v := 14) hx hb d_PR_init_5 (by decide) ?_
  refine k_arrI (N := 14) hc w mw_39 (by decide) (by decide) (Nat.le_of_ble_eq_true rfl) (Nat.le_of_ble_eq_true rfl) (Nat.le_of_ble_eq_true rfl) d_PR_init_7 (fun q7 H w => ?_)
  have w : Wd xCl E A s.heap H _ [(h0, .inr (6, [.null, .null, .null, .null, .null, .null, .null, .null, .null, .int 0])), (q7, .inl (E.2.1.1, 14, .inl (fun _ => 0)))] := w
  refine k_putF (ty := (.array .int)) hc hin w i_PR ty_PR tyok_PR nm_PR 0 rfl rfl 8 (by decide) rfl rfl (by decide +kernel) rfl rfl (Nat.le_of_ble_eq_true rfl) (ws' := [(h0, .inr (6, [.null, .null, .null, .null, .null, .null, .null, .null, .ref q7, .int 0])), (q7, .inl (E.2.1.1, 14, .inl (fun _ => 0)))]) rfl mw_215 d_PR_init_9 (fun H locs w => ?_)
  refine lv_aload_n hx hb d_PR_init_12 rfl (lv_at hl 0 rfl) ?_
  refine lv_aload_n hx hb d_PR_init_13 rfl (lv_at hl 1 rfl) ?_
  refine k_putF (ty := (.object "PageMachine$Core")) hc hin w i_PR ty_PR tyok_PR nm_PR 0 rfl rfl 0 (by decide) rfl rfl (by decide +kernel) rfl rfl (Nat.le_of_ble_eq_true rfl) (ws' := [(h0, .inr (6, [.ref p1, .null, .null, .null, .null, .null, .null, .null, .ref q7, .int 0])), (q7, .inl (E.2.1.1, 14, .inl (fun _ => 0)))]) rfl mw_207 d_PR_init_14 (fun H locs w => ?_)
  refine lv_aload_n hx hb d_PR_init_17 rfl (lv_at hl 0 rfl) ?_
  refine lv_aload_n hx hb d_PR_init_18 rfl (lv_at hl 2 rfl) ?_
  refine k_putF (ty := (.object "PageMachine$Memory")) hc hin w i_PR ty_PR tyok_PR nm_PR 0 rfl rfl 1 (by decide) rfl rfl (by decide +kernel) rfl rfl (Nat.le_of_ble_eq_true rfl) (ws' := [(h0, .inr (6, [.ref p1, .ref p2, .null, .null, .null, .null, .null, .null, .ref q7, .int 0])), (q7, .inl (E.2.1.1, 14, .inl (fun _ => 0)))]) rfl mw_208 d_PR_init_19 (fun H locs w => ?_)
  refine lv_aload_n hx hb d_PR_init_22 rfl (lv_at hl 0 rfl) ?_
  refine lv_aload_n hx hb d_PR_init_23 rfl (lv_at hl 3 rfl) ?_
  refine k_putF (ty := (.object "PageMachine$SystemRegisters")) hc hin w i_PR ty_PR tyok_PR nm_PR 0 rfl rfl 2 (by decide) rfl rfl (by decide +kernel) rfl rfl (Nat.le_of_ble_eq_true rfl) (ws' := [(h0, .inr (6, [.ref p1, .ref p2, .ref p3, .null, .null, .null, .null, .null, .ref q7, .int 0])), (q7, .inl (E.2.1.1, 14, .inl (fun _ => 0)))]) rfl mw_209 d_PR_init_24 (fun H locs w => ?_)
  refine lv_aload_n hx hb d_PR_init_27 rfl (lv_at hl 0 rfl) ?_
  refine lv_aload hx hb d_PR_init_28 (lv_at hl 5 rfl) ?_
  refine k_putF (ty := (.object "PageMachine$AddressSpace")) hc hin w i_PR ty_PR tyok_PR nm_PR 0 rfl rfl 3 (by decide) rfl rfl (by decide +kernel) rfl rfl (Nat.le_of_ble_eq_true rfl) (ws' := [(h0, .inr (6, [.ref p1, .ref p2, .ref p3, .ref p5, .null, .null, .null, .null, .ref q7, .int 0])), (q7, .inl (E.2.1.1, 14, .inl (fun _ => 0)))]) rfl mw_210 d_PR_init_30 (fun H locs w => ?_)
  refine lv_aload_n hx hb d_PR_init_33 rfl (lv_at hl 0 rfl) ?_
  refine k_new (ci := 7) (fs := [.null]) hc w i_AR ty_AR tyok_AR mw_155 mw_156 mw_8 rfl (fun j hj => by match j, hj with | 0, _ => rfl | n + 1, h => exact absurd h (by omega)) (Nat.le_of_ble_eq_true rfl) (Nat.le_of_ble_eq_true rfl) d_PR_init_34 (fun q34 H w => ?_)
  have w : Wd xCl E A s.heap H _ [(h0, .inr (6, [.ref p1, .ref p2, .ref p3, .ref p5, .null, .null, .null, .null, .ref q7, .int 0])), (q7, .inl (E.2.1.1, 14, .inl (fun _ => 0))), (q34, .inr (7, [.null]))] := w
  refine lv_dup hx hb d_PR_init_37 rfl ?_
  refine lv_aload_n hx hb d_PR_init_38 rfl (lv_at hl 1 rfl) ?_
  refine k_call (wr := [(h0, .inr (6, [.ref p1, .ref p2, .ref p3, .ref p5, .null, .null, .null, .null, .ref q7, .int 0])), (q7, .inl (E.2.1.1, 14, .inl (fun _ => 0)))]) (rest := [.ref q34, .ref h0]) hc w (c_AR_init l E q34 p1) ki_AR_init (fun h => h.elim) mw_157 ⟨Nat.le_of_ble_eq_true rfl, Nat.le_of_ble_eq_true rfl⟩ hl.1 rfl (Nat.le_of_ble_eq_true rfl) ⟨Nat.le_of_ble_eq_true rfl, Nat.le_of_ble_eq_true rfl⟩ d_PR_init_39 (fun na39 H locs w => ?_)
  have w : Wd xCl E A s.heap H locs [(h0, .inr (6, [.ref p1, .ref p2, .ref p3, .ref p5, .null, .null, .null, .null, .ref q7, .int 0])), (q7, .inl (E.2.1.1, 14, .inl (fun _ => 0))), (q34, .inr (7, [.ref p1]))] := w
  refine k_putF (ty := (.object "PageMachine$Arithmetic")) hc hin w i_PR ty_PR tyok_PR nm_PR 0 rfl rfl 4 (by decide) rfl rfl (by decide +kernel) rfl rfl (Nat.le_of_ble_eq_true rfl) (ws' := [(h0, .inr (6, [.ref p1, .ref p2, .ref p3, .ref p5, .ref q34, .null, .null, .null, .ref q7, .int 0])), (q7, .inl (E.2.1.1, 14, .inl (fun _ => 0))), (q34, .inr (7, [.ref p1]))]) rfl mw_211 d_PR_init_42 (fun H locs w => ?_)
  refine lv_aload_n hx hb d_PR_init_45 rfl (lv_at hl 0 rfl) ?_
  refine k_new (ci := 8) (fs := [.null]) hc w i_BR ty_BR tyok_BR mw_165 mw_166 mw_9 rfl (fun j hj => by match j, hj with | 0, _ => rfl | n + 1, h => exact absurd h (by omega)) (Nat.le_of_ble_eq_true rfl) (Nat.le_of_ble_eq_true rfl) d_PR_init_46 (fun q46 H w => ?_)
  have w : Wd xCl E A s.heap H _ [(h0, .inr (6, [.ref p1, .ref p2, .ref p3, .ref p5, .ref q34, .null, .null, .null, .ref q7, .int 0])), (q7, .inl (E.2.1.1, 14, .inl (fun _ => 0))), (q34, .inr (7, [.ref p1])), (q46, .inr (8, [.null]))] := w
  refine lv_dup hx hb d_PR_init_49 rfl ?_
  refine lv_aload_n hx hb d_PR_init_50 rfl (lv_at hl 1 rfl) ?_
  refine k_call (wr := [(h0, .inr (6, [.ref p1, .ref p2, .ref p3, .ref p5, .ref q34, .null, .null, .null, .ref q7, .int 0])), (q7, .inl (E.2.1.1, 14, .inl (fun _ => 0))), (q34, .inr (7, [.ref p1]))]) (rest := [.ref q46, .ref h0]) hc w (c_BR_init l E q46 p1) ki_BR_init (fun h => h.elim) mw_167 ⟨Nat.le_of_ble_eq_true rfl, Nat.le_of_ble_eq_true rfl⟩ hl.1 rfl (Nat.le_of_ble_eq_true rfl) ⟨Nat.le_of_ble_eq_true rfl, Nat.le_of_ble_eq_true rfl⟩ d_PR_init_51 (fun na51 H locs w => ?_)
  have w : Wd xCl E A s.heap H locs [(h0, .inr (6, [.ref p1, .ref p2, .ref p3, .ref p5, .ref q34, .null, .null, .null, .ref q7, .int 0])), (q7, .inl (E.2.1.1, 14, .inl (fun _ => 0))), (q34, .inr (7, [.ref p1])), (q46, .inr (8, [.ref p1]))] := w
  refine k_putF (ty := (.object "PageMachine$Branches")) hc hin w i_PR ty_PR tyok_PR nm_PR 0 rfl rfl 5 (by decide) rfl rfl (by decide +kernel) rfl rfl (Nat.le_of_ble_eq_true rfl) (ws' := [(h0, .inr (6, [.ref p1, .ref p2, .ref p3, .ref p5, .ref q34, .ref q46, .null, .null, .ref q7, .int 0])), (q7, .inl (E.2.1.1, 14, .inl (fun _ => 0))), (q34, .inr (7, [.ref p1])), (q46, .inr (8, [.ref p1]))]) rfl mw_212 d_PR_init_54 (fun H locs w => ?_)
  refine lv_aload_n hx hb d_PR_init_57 rfl (lv_at hl 0 rfl) ?_
  refine k_new (ci := 9) (fs := [.null, .null, .null]) hc w i_LS ty_LS tyok_LS mw_175 mw_176 mw_10 rfl (fun j hj => by match j, hj with | 0, _ => rfl | 1, _ => rfl | 2, _ => rfl | n + 3, h => exact absurd h (by omega)) (Nat.le_of_ble_eq_true rfl) (Nat.le_of_ble_eq_true rfl) d_PR_init_58 (fun q58 H w => ?_)
  have w : Wd xCl E A s.heap H _ [(h0, .inr (6, [.ref p1, .ref p2, .ref p3, .ref p5, .ref q34, .ref q46, .null, .null, .ref q7, .int 0])), (q7, .inl (E.2.1.1, 14, .inl (fun _ => 0))), (q34, .inr (7, [.ref p1])), (q46, .inr (8, [.ref p1])), (q58, .inr (9, [.null, .null, .null]))] := w
  refine lv_dup hx hb d_PR_init_61 rfl ?_
  refine lv_aload_n hx hb d_PR_init_62 rfl (lv_at hl 1 rfl) ?_
  refine lv_aload_n hx hb d_PR_init_63 rfl (lv_at hl 2 rfl) ?_
  refine lv_aload hx hb d_PR_init_64 (lv_at hl 5 rfl) ?_
  refine k_call (wr := [(h0, .inr (6, [.ref p1, .ref p2, .ref p3, .ref p5, .ref q34, .ref q46, .null, .null, .ref q7, .int 0])), (q7, .inl (E.2.1.1, 14, .inl (fun _ => 0))), (q34, .inr (7, [.ref p1])), (q46, .inr (8, [.ref p1]))]) (rest := [.ref q58, .ref h0]) hc w (c_LS_init l E q58 p1 p2 p5) ki_LS_init (fun h => h.elim) mw_177 ⟨Nat.le_of_ble_eq_true rfl, Nat.le_of_ble_eq_true rfl⟩ hl.1 rfl (Nat.le_of_ble_eq_true rfl) ⟨Nat.le_of_ble_eq_true rfl, Nat.le_of_ble_eq_true rfl⟩ d_PR_init_66 (fun na66 H locs w => ?_)
  have w : Wd xCl E A s.heap H locs [(h0, .inr (6, [.ref p1, .ref p2, .ref p3, .ref p5, .ref q34, .ref q46, .null, .null, .ref q7, .int 0])), (q7, .inl (E.2.1.1, 14, .inl (fun _ => 0))), (q34, .inr (7, [.ref p1])), (q46, .inr (8, [.ref p1])), (q58, .inr (9, [.ref p1, .ref p2, .ref p5]))] := w
  refine k_putF (ty := (.object "PageMachine$LoadsAndStores")) hc hin w i_PR ty_PR tyok_PR nm_PR 0 rfl rfl 6 (by decide) rfl rfl (by decide +kernel) rfl rfl (Nat.le_of_ble_eq_true rfl) (ws' := [(h0, .inr (6, [.ref p1, .ref p2, .ref p3, .ref p5, .ref q34, .ref q46, .ref q58, .null, .ref q7, .int 0])), (q7, .inl (E.2.1.1, 14, .inl (fun _ => 0))), (q34, .inr (7, [.ref p1])), (q46, .inr (8, [.ref p1])), (q58, .inr (9, [.ref p1, .ref p2, .ref p5]))]) rfl mw_213 d_PR_init_69 (fun H locs w => ?_)
  refine lv_aload_n hx hb d_PR_init_72 rfl (lv_at hl 0 rfl) ?_
  refine k_new (ci := 10) (fs := [.null, .null, .null]) hc w i_CP ty_CP tyok_CP mw_191 mw_192 mw_11 rfl (fun j hj => by match j, hj with | 0, _ => rfl | 1, _ => rfl | 2, _ => rfl | n + 3, h => exact absurd h (by omega)) (Nat.le_of_ble_eq_true rfl) (Nat.le_of_ble_eq_true rfl) d_PR_init_73 (fun q73 H w => ?_)
  have w : Wd xCl E A s.heap H _ [(h0, .inr (6, [.ref p1, .ref p2, .ref p3, .ref p5, .ref q34, .ref q46, .ref q58, .null, .ref q7, .int 0])), (q7, .inl (E.2.1.1, 14, .inl (fun _ => 0))), (q34, .inr (7, [.ref p1])), (q46, .inr (8, [.ref p1])), (q58, .inr (9, [.ref p1, .ref p2, .ref p5])), (q73, .inr (10, [.null, .null, .null]))] := w
  refine lv_dup hx hb d_PR_init_76 rfl ?_
  refine lv_aload_n hx hb d_PR_init_77 rfl (lv_at hl 1 rfl) ?_
  refine lv_aload_n hx hb d_PR_init_78 rfl (lv_at hl 3 rfl) ?_
  refine lv_aload hx hb d_PR_init_79 (lv_at hl 4 rfl) ?_
  refine k_call (wr := [(h0, .inr (6, [.ref p1, .ref p2, .ref p3, .ref p5, .ref q34, .ref q46, .ref q58, .null, .ref q7, .int 0])), (q7, .inl (E.2.1.1, 14, .inl (fun _ => 0))), (q34, .inr (7, [.ref p1])), (q46, .inr (8, [.ref p1])), (q58, .inr (9, [.ref p1, .ref p2, .ref p5]))]) (rest := [.ref q73, .ref h0]) hc w (c_CP_init l E q73 p1 p3 p4) ki_CP_init (fun h => h.elim) mw_193 ⟨Nat.le_of_ble_eq_true rfl, Nat.le_of_ble_eq_true rfl⟩ hl.1 rfl (Nat.le_of_ble_eq_true rfl) ⟨Nat.le_of_ble_eq_true rfl, Nat.le_of_ble_eq_true rfl⟩ d_PR_init_81 (fun na81 H locs w => ?_)
  have w : Wd xCl E A s.heap H locs [(h0, .inr (6, [.ref p1, .ref p2, .ref p3, .ref p5, .ref q34, .ref q46, .ref q58, .null, .ref q7, .int 0])), (q7, .inl (E.2.1.1, 14, .inl (fun _ => 0))), (q34, .inr (7, [.ref p1])), (q46, .inr (8, [.ref p1])), (q58, .inr (9, [.ref p1, .ref p2, .ref p5])), (q73, .inr (10, [.ref p1, .ref p3, .ref p4]))] := w
  refine k_putF (ty := (.object "PageMachine$Coprocessor")) hc hin w i_PR ty_PR tyok_PR nm_PR 0 rfl rfl 7 (by decide) rfl rfl (by decide +kernel) rfl rfl (Nat.le_of_ble_eq_true rfl) (ws' := [(h0, .inr (6, [.ref p1, .ref p2, .ref p3, .ref p5, .ref q34, .ref q46, .ref q58, .ref q73, .ref q7, .int 0])), (q7, .inl (E.2.1.1, 14, .inl (fun _ => 0))), (q34, .inr (7, [.ref p1])), (q46, .inr (8, [.ref p1])), (q58, .inr (9, [.ref p1, .ref p2, .ref p5])), (q73, .inr (10, [.ref p1, .ref p3, .ref p4]))]) rfl mw_214 d_PR_init_84 (fun H locs w => ?_)
  exact k_ret hc (fun k => match k with | 0 => q7 | 1 => q34 | 2 => q46 | 3 => q58 | 4 => q73 | _ => 0) w (Nat.le_of_ble_eq_true rfl) (Nat.le_of_ble_eq_true rfl) d_PR_init_87
def x0 : XS := (0, 0, -2147483648, 0, 0, 0, 0, 0, 0, 0, false, false, false, (fun _ => 0), (upd (upd (fun _ => 0) (Int32.toNatClampNeg (1 : Int32)) (31 : Int32)) (Int32.toNatClampNeg (15 : Int32)) (98304 : Int32)), (fun _ => 0), (fun _ => 0), (fun _ => 0), (fun _ => 0), (fun _ => 0), (fun _ => 0), (fun _ => 0))
def ax (h0 : Nat) (na : Nat → Nat) : Nat → Nat := fun k => match k with | 0 => h0 | k + 1 => na k
theorem d_PM_init_0 : decode b_PM_init 0 = .ok (.aload_n 0, 1) := by decide +kernel
theorem d_PM_init_1 : decode b_PM_init 1 = .ok (.invokespecial 1, 3) := by decide +kernel
theorem d_PM_init_4 : decode b_PM_init 4 = .ok (.aload_n 0, 1) := by decide +kernel
theorem d_PM_init_5 : decode b_PM_init 5 = .ok (.new 7, 3) := by decide +kernel
theorem d_PM_init_8 : decode b_PM_init 8 = .ok (.dup, 1) := by decide +kernel
theorem d_PM_init_9 : decode b_PM_init 9 = .ok (.invokespecial 9, 3) := by decide +kernel
theorem d_PM_init_12 : decode b_PM_init 12 = .ok (.putfield 10, 3) := by decide +kernel
theorem d_PM_init_15 : decode b_PM_init 15 = .ok (.aload_n 0, 1) := by decide +kernel
theorem d_PM_init_16 : decode b_PM_init 16 = .ok (.new 16, 3) := by decide +kernel
theorem d_PM_init_19 : decode b_PM_init 19 = .ok (.dup, 1) := by decide +kernel
theorem d_PM_init_20 : decode b_PM_init 20 = .ok (.invokespecial 18, 3) := by decide +kernel
theorem d_PM_init_23 : decode b_PM_init 23 = .ok (.putfield 19, 3) := by decide +kernel
theorem d_PM_init_26 : decode b_PM_init 26 = .ok (.aload_n 0, 1) := by decide +kernel
theorem d_PM_init_27 : decode b_PM_init 27 = .ok (.new 23, 3) := by decide +kernel
theorem d_PM_init_30 : decode b_PM_init 30 = .ok (.dup, 1) := by decide +kernel
theorem d_PM_init_31 : decode b_PM_init 31 = .ok (.invokespecial 25, 3) := by decide +kernel
theorem d_PM_init_34 : decode b_PM_init 34 = .ok (.putfield 26, 3) := by decide +kernel
theorem d_PM_init_37 : decode b_PM_init 37 = .ok (.aload_n 0, 1) := by decide +kernel
theorem d_PM_init_38 : decode b_PM_init 38 = .ok (.new 30, 3) := by decide +kernel
theorem d_PM_init_41 : decode b_PM_init 41 = .ok (.dup, 1) := by decide +kernel
theorem d_PM_init_42 : decode b_PM_init 42 = .ok (.aload_n 0, 1) := by decide +kernel
theorem d_PM_init_43 : decode b_PM_init 43 = .ok (.getfield 10, 3) := by decide +kernel
theorem d_PM_init_46 : decode b_PM_init 46 = .ok (.aload_n 0, 1) := by decide +kernel
theorem d_PM_init_47 : decode b_PM_init 47 = .ok (.getfield 19, 3) := by decide +kernel
theorem d_PM_init_50 : decode b_PM_init 50 = .ok (.aload_n 0, 1) := by decide +kernel
theorem d_PM_init_51 : decode b_PM_init 51 = .ok (.getfield 26, 3) := by decide +kernel
theorem d_PM_init_54 : decode b_PM_init 54 = .ok (.invokespecial 32, 3) := by decide +kernel
theorem d_PM_init_57 : decode b_PM_init 57 = .ok (.putfield 35, 3) := by decide +kernel
theorem d_PM_init_60 : decode b_PM_init 60 = .ok (.aload_n 0, 1) := by decide +kernel
theorem d_PM_init_61 : decode b_PM_init 61 = .ok (.new 39, 3) := by decide +kernel
theorem d_PM_init_64 : decode b_PM_init 64 = .ok (.dup, 1) := by decide +kernel
theorem d_PM_init_65 : decode b_PM_init 65 = .ok (.invokespecial 41, 3) := by decide +kernel
theorem d_PM_init_68 : decode b_PM_init 68 = .ok (.putfield 42, 3) := by decide +kernel
theorem d_PM_init_71 : decode b_PM_init 71 = .ok (.aload_n 0, 1) := by decide +kernel
theorem d_PM_init_72 : decode b_PM_init 72 = .ok (.new 46, 3) := by decide +kernel
theorem d_PM_init_75 : decode b_PM_init 75 = .ok (.dup, 1) := by decide +kernel
theorem d_PM_init_76 : decode b_PM_init 76 = .ok (.aload_n 0, 1) := by decide +kernel
theorem d_PM_init_77 : decode b_PM_init 77 = .ok (.getfield 42, 3) := by decide +kernel
theorem d_PM_init_80 : decode b_PM_init 80 = .ok (.aload_n 0, 1) := by decide +kernel
theorem d_PM_init_81 : decode b_PM_init 81 = .ok (.getfield 10, 3) := by decide +kernel
theorem d_PM_init_84 : decode b_PM_init 84 = .ok (.aload_n 0, 1) := by decide +kernel
theorem d_PM_init_85 : decode b_PM_init 85 = .ok (.getfield 19, 3) := by decide +kernel
theorem d_PM_init_88 : decode b_PM_init 88 = .ok (.aload_n 0, 1) := by decide +kernel
theorem d_PM_init_89 : decode b_PM_init 89 = .ok (.getfield 26, 3) := by decide +kernel
theorem d_PM_init_92 : decode b_PM_init 92 = .ok (.aload_n 0, 1) := by decide +kernel
theorem d_PM_init_93 : decode b_PM_init 93 = .ok (.getfield 35, 3) := by decide +kernel
theorem d_PM_init_96 : decode b_PM_init 96 = .ok (.invokespecial 48, 3) := by decide +kernel
theorem d_PM_init_99 : decode b_PM_init 99 = .ok (.putfield 51, 3) := by decide +kernel
theorem d_PM_init_102 : decode b_PM_init 102 = .ok (.return_, 1) := by decide +kernel
theorem ki_PM_init : KI y_PM_init b_PM_init 1 0 := ⟨mc_PM_init, mw_23, mw_1, rfl, by decide +kernel⟩
set_option maxHeartbeats 4000000 in
set_option maxRecDepth 100000 in
theorem c_PM_init (l : Launch) (E : Ev) (h0 : Nat) : kC xCl l E True y_PM_init b_PM_init 1 3 19 65815 60 [.ref h0] [(h0, .inr (0, [.null, .null, .null, .null, .null, .null]))] (fun na => xW E (ax h0 na) x0) := by
  refine kC.of (by decide) rfl (Nat.le_of_ble_eq_true rfl) ?_
  intro p e s m below meth c A ls hc hin hnt w hl
  have hc : Cx xCl E A p s m ([.ref h0] : List Value).toArray meth c b_PM_init 1 none "PageMachine" := hc
  have hx := hc.1
  have hb := hc.2.1
  have ho := hc.2.2.2.2.2.1
  have hT := hc.2.2.2.2.2.2.1
  have hl : lv_has ls 1 [(0, .ref h0)] := hl
  refine lv_aload_n hx hb d_PM_init_0 rfl (lv_at hl 0 rfl) ?_
  refine k_obj hc mw_25 mw_26 mc_obj hl.1 d_PM_init_1 (Nat.le_of_ble_eq_true rfl) (Nat.le_of_ble_eq_true rfl) ?_
  refine lv_aload_n hx hb d_PM_init_4 rfl (lv_at hl 0 rfl) ?_
  refine k_new (ci := 1) (fs := [.null]) hc w i_ME ty_ME tyok_ME mw_28 mw_29 mw_2 rfl (fun j hj => by match j, hj with | 0, _ => rfl | n + 1, h => exact absurd h (by omega)) (Nat.le_of_ble_eq_true rfl) (Nat.le_of_ble_eq_true rfl) d_PM_init_5 (fun q5 H w => ?_)
  have w : Wd xCl E A s.heap H _ [(h0, .inr (0, [.null, .null, .null, .null, .null, .null])), (q5, .inr (1, [.null]))] := w
  refine lv_dup hx hb d_PM_init_8 rfl ?_
  refine k_callN (wr := [(h0, .inr (0, [.null, .null, .null, .null, .null, .null]))]) (rest := [.ref q5, .ref h0]) hc w (c_ME_init l E q5) ki_ME_init (fun h => h.elim) (hnt trivial).1 ⟨Nat.le_of_ble_eq_true rfl, Nat.le_of_ble_eq_true rfl⟩ hl.1 rfl (Nat.le_of_ble_eq_true rfl) ⟨Nat.le_of_ble_eq_true rfl, Nat.le_of_ble_eq_true rfl⟩ d_PM_init_9 (fun na9 H locs w => ?_)
  have w : Wd xCl E A s.heap H locs [(h0, .inr (0, [.null, .null, .null, .null, .null, .null])), (q5, .inr (1, [.ref (na9 0)])), ((na9 0), .inl (E.2.1.1, 65536, .inl (fun _ => 0)))] := w
  refine k_putF (ty := (.object "PageMachine$Memory")) hc hin w i_PM ty_PM tyok_PM nm_PM 0 rfl rfl 0 (by decide) rfl rfl (by decide +kernel) rfl rfl (Nat.le_of_ble_eq_true rfl) (ws' := [(h0, .inr (0, [.ref q5, .null, .null, .null, .null, .null])), (q5, .inr (1, [.ref (na9 0)])), ((na9 0), .inl (E.2.1.1, 65536, .inl (fun _ => 0)))]) rfl mw_238 d_PM_init_12 (fun H locs w => ?_)
  refine lv_aload_n hx hb d_PM_init_15 rfl (lv_at hl 0 rfl) ?_
  refine k_new (ci := 2) (fs := [.null, .int 0, .int 0]) hc w i_SR ty_SR tyok_SR mw_40 mw_41 mw_3 rfl (fun j hj => by match j, hj with | 0, _ => rfl | 1, _ => rfl | 2, _ => rfl | n + 3, h => exact absurd h (by omega)) (Nat.le_of_ble_eq_true rfl) (Nat.le_of_ble_eq_true rfl) d_PM_init_16 (fun q16 H w => ?_)
  have w : Wd xCl E A s.heap H _ [(h0, .inr (0, [.ref q5, .null, .null, .null, .null, .null])), (q5, .inr (1, [.ref (na9 0)])), ((na9 0), .inl (E.2.1.1, 65536, .inl (fun _ => 0))), (q16, .inr (2, [.null, .int 0, .int 0]))] := w
  refine lv_dup hx hb d_PM_init_19 rfl ?_
  refine k_call (wr := [(h0, .inr (0, [.ref q5, .null, .null, .null, .null, .null])), (q5, .inr (1, [.ref (na9 0)])), ((na9 0), .inl (E.2.1.1, 65536, .inl (fun _ => 0)))]) (rest := [.ref q16, .ref h0]) hc w (c_SR_init l E q16) ki_SR_init (fun h => h.elim) mw_42 ⟨Nat.le_of_ble_eq_true rfl, Nat.le_of_ble_eq_true rfl⟩ hl.1 rfl (Nat.le_of_ble_eq_true rfl) ⟨Nat.le_of_ble_eq_true rfl, Nat.le_of_ble_eq_true rfl⟩ d_PM_init_20 (fun na20 H locs w => ?_)
  have w : Wd xCl E A s.heap H locs [(h0, .inr (0, [.ref q5, .null, .null, .null, .null, .null])), (q5, .inr (1, [.ref (na9 0)])), ((na9 0), .inl (E.2.1.1, 65536, .inl (fun _ => 0))), (q16, .inr (2, [.ref (na20 0), .int 0, .int 0])), ((na20 0), .inl (E.2.1.1, 32, .inl (upd (upd (fun _ => 0) (Int32.toNatClampNeg (1 : Int32)) (31 : Int32)) (Int32.toNatClampNeg (15 : Int32)) (98304 : Int32))))] := w
  refine k_putF (ty := (.object "PageMachine$SystemRegisters")) hc hin w i_PM ty_PM tyok_PM nm_PM 0 rfl rfl 1 (by decide) rfl rfl (by decide +kernel) rfl rfl (Nat.le_of_ble_eq_true rfl) (ws' := [(h0, .inr (0, [.ref q5, .ref q16, .null, .null, .null, .null])), (q5, .inr (1, [.ref (na9 0)])), ((na9 0), .inl (E.2.1.1, 65536, .inl (fun _ => 0))), (q16, .inr (2, [.ref (na20 0), .int 0, .int 0])), ((na20 0), .inl (E.2.1.1, 32, .inl (upd (upd (fun _ => 0) (Int32.toNatClampNeg (1 : Int32)) (31 : Int32)) (Int32.toNatClampNeg (15 : Int32)) (98304 : Int32))))]) rfl mw_239 d_PM_init_23 (fun H locs w => ?_)
  refine lv_aload_n hx hb d_PM_init_26 rfl (lv_at hl 0 rfl) ?_
  refine k_new (ci := 3) (fs := [.null, .null, .null, .null, .null]) hc w i_TL ty_TL tyok_TL mw_57 mw_58 mw_4 rfl (fun j hj => by match j, hj with | 0, _ => rfl | 1, _ => rfl | 2, _ => rfl | 3, _ => rfl | 4, _ => rfl | n + 5, h => exact absurd h (by omega)) (Nat.le_of_ble_eq_true rfl) (Nat.le_of_ble_eq_true rfl) d_PM_init_27 (fun q27 H w => ?_)
  have w : Wd xCl E A s.heap H _ [(h0, .inr (0, [.ref q5, .ref q16, .null, .null, .null, .null])), (q5, .inr (1, [.ref (na9 0)])), ((na9 0), .inl (E.2.1.1, 65536, .inl (fun _ => 0))), (q16, .inr (2, [.ref (na20 0), .int 0, .int 0])), ((na20 0), .inl (E.2.1.1, 32, .inl (upd (upd (fun _ => 0) (Int32.toNatClampNeg (1 : Int32)) (31 : Int32)) (Int32.toNatClampNeg (15 : Int32)) (98304 : Int32)))), (q27, .inr (3, [.null, .null, .null, .null, .null]))] := w
  refine lv_dup hx hb d_PM_init_30 rfl ?_
  refine k_callN (wr := [(h0, .inr (0, [.ref q5, .ref q16, .null, .null, .null, .null])), (q5, .inr (1, [.ref (na9 0)])), ((na9 0), .inl (E.2.1.1, 65536, .inl (fun _ => 0))), (q16, .inr (2, [.ref (na20 0), .int 0, .int 0])), ((na20 0), .inl (E.2.1.1, 32, .inl (upd (upd (fun _ => 0) (Int32.toNatClampNeg (1 : Int32)) (31 : Int32)) (Int32.toNatClampNeg (15 : Int32)) (98304 : Int32))))]) (rest := [.ref q27, .ref h0]) hc w (c_TL_init l E q27) ki_TL_init (fun h => h.elim) (hnt trivial).2.1 ⟨Nat.le_of_ble_eq_true rfl, Nat.le_of_ble_eq_true rfl⟩ hl.1 rfl (Nat.le_of_ble_eq_true rfl) ⟨Nat.le_of_ble_eq_true rfl, Nat.le_of_ble_eq_true rfl⟩ d_PM_init_31 (fun na31 H locs w => ?_)
  have w : Wd xCl E A s.heap H locs [(h0, .inr (0, [.ref q5, .ref q16, .null, .null, .null, .null])), (q5, .inr (1, [.ref (na9 0)])), ((na9 0), .inl (E.2.1.1, 65536, .inl (fun _ => 0))), (q16, .inr (2, [.ref (na20 0), .int 0, .int 0])), ((na20 0), .inl (E.2.1.1, 32, .inl (upd (upd (fun _ => 0) (Int32.toNatClampNeg (1 : Int32)) (31 : Int32)) (Int32.toNatClampNeg (15 : Int32)) (98304 : Int32)))), (q27, .inr (3, [.ref (na31 0), .ref (na31 1), .ref (na31 2), .ref (na31 3), .ref (na31 4)])), ((na31 0), .inl (E.2.1.1, 32, .inl (fun _ => 0))), ((na31 1), .inl (E.2.1.1, 32, .inl (fun _ => 0))), ((na31 2), .inl (E.2.1.1, 32, .inl (fun _ => 0))), ((na31 3), .inl (E.2.1.1, 32, .inl (fun _ => 0))), ((na31 4), .inl (E.2.1.1, 32, .inl (fun _ => 0)))] := w
  refine k_putF (ty := (.object "PageMachine$Tlb")) hc hin w i_PM ty_PM tyok_PM nm_PM 0 rfl rfl 2 (by decide) rfl rfl (by decide +kernel) rfl rfl (Nat.le_of_ble_eq_true rfl) (ws' := [(h0, .inr (0, [.ref q5, .ref q16, .ref q27, .null, .null, .null])), (q5, .inr (1, [.ref (na9 0)])), ((na9 0), .inl (E.2.1.1, 65536, .inl (fun _ => 0))), (q16, .inr (2, [.ref (na20 0), .int 0, .int 0])), ((na20 0), .inl (E.2.1.1, 32, .inl (upd (upd (fun _ => 0) (Int32.toNatClampNeg (1 : Int32)) (31 : Int32)) (Int32.toNatClampNeg (15 : Int32)) (98304 : Int32)))), (q27, .inr (3, [.ref (na31 0), .ref (na31 1), .ref (na31 2), .ref (na31 3), .ref (na31 4)])), ((na31 0), .inl (E.2.1.1, 32, .inl (fun _ => 0))), ((na31 1), .inl (E.2.1.1, 32, .inl (fun _ => 0))), ((na31 2), .inl (E.2.1.1, 32, .inl (fun _ => 0))), ((na31 3), .inl (E.2.1.1, 32, .inl (fun _ => 0))), ((na31 4), .inl (E.2.1.1, 32, .inl (fun _ => 0)))]) rfl mw_240 d_PM_init_34 (fun H locs w => ?_)
  refine lv_aload_n hx hb d_PM_init_37 rfl (lv_at hl 0 rfl) ?_
  refine k_new (ci := 4) (fs := [.null, .null, .null, .int 0]) hc w i_AS ty_AS tyok_AS mw_79 mw_80 mw_5 rfl (fun j hj => by match j, hj with | 0, _ => rfl | 1, _ => rfl | 2, _ => rfl | 3, _ => rfl | n + 4, h => exact absurd h (by omega)) (Nat.le_of_ble_eq_true rfl) (Nat.le_of_ble_eq_true rfl) d_PM_init_38 (fun q38 H w => ?_)
  have w : Wd xCl E A s.heap H _ [(h0, .inr (0, [.ref q5, .ref q16, .ref q27, .null, .null, .null])), (q5, .inr (1, [.ref (na9 0)])), ((na9 0), .inl (E.2.1.1, 65536, .inl (fun _ => 0))), (q16, .inr (2, [.ref (na20 0), .int 0, .int 0])), ((na20 0), .inl (E.2.1.1, 32, .inl (upd (upd (fun _ => 0) (Int32.toNatClampNeg (1 : Int32)) (31 : Int32)) (Int32.toNatClampNeg (15 : Int32)) (98304 : Int32)))), (q27, .inr (3, [.ref (na31 0), .ref (na31 1), .ref (na31 2), .ref (na31 3), .ref (na31 4)])), ((na31 0), .inl (E.2.1.1, 32, .inl (fun _ => 0))), ((na31 1), .inl (E.2.1.1, 32, .inl (fun _ => 0))), ((na31 2), .inl (E.2.1.1, 32, .inl (fun _ => 0))), ((na31 3), .inl (E.2.1.1, 32, .inl (fun _ => 0))), ((na31 4), .inl (E.2.1.1, 32, .inl (fun _ => 0))), (q38, .inr (4, [.null, .null, .null, .int 0]))] := w
  refine lv_dup hx hb d_PM_init_41 rfl ?_
  refine lv_aload_n hx hb d_PM_init_42 rfl (lv_at hl 0 rfl) ?_
  refine rg (v := .ref q5) hc w i_PM 0 rfl rfl 0 (by decide) rfl mw_238 d_PM_init_43 ?_
  refine lv_aload_n hx hb d_PM_init_46 rfl (lv_at hl 0 rfl) ?_
  refine rg (v := .ref q16) hc w i_PM 0 rfl rfl 1 (by decide) rfl mw_239 d_PM_init_47 ?_
  refine lv_aload_n hx hb d_PM_init_50 rfl (lv_at hl 0 rfl) ?_
  refine rg (v := .ref q27) hc w i_PM 0 rfl rfl 2 (by decide) rfl mw_240 d_PM_init_51 ?_
  refine k_call (wr := [(h0, .inr (0, [.ref q5, .ref q16, .ref q27, .null, .null, .null])), (q5, .inr (1, [.ref (na9 0)])), ((na9 0), .inl (E.2.1.1, 65536, .inl (fun _ => 0))), (q16, .inr (2, [.ref (na20 0), .int 0, .int 0])), ((na20 0), .inl (E.2.1.1, 32, .inl (upd (upd (fun _ => 0) (Int32.toNatClampNeg (1 : Int32)) (31 : Int32)) (Int32.toNatClampNeg (15 : Int32)) (98304 : Int32)))), (q27, .inr (3, [.ref (na31 0), .ref (na31 1), .ref (na31 2), .ref (na31 3), .ref (na31 4)])), ((na31 0), .inl (E.2.1.1, 32, .inl (fun _ => 0))), ((na31 1), .inl (E.2.1.1, 32, .inl (fun _ => 0))), ((na31 2), .inl (E.2.1.1, 32, .inl (fun _ => 0))), ((na31 3), .inl (E.2.1.1, 32, .inl (fun _ => 0))), ((na31 4), .inl (E.2.1.1, 32, .inl (fun _ => 0)))]) (rest := [.ref q38, .ref h0]) hc w (c_AS_init l E q38 q5 q16 q27) ki_AS_init (fun h => h.elim) mw_81 ⟨Nat.le_of_ble_eq_true rfl, Nat.le_of_ble_eq_true rfl⟩ hl.1 rfl (Nat.le_of_ble_eq_true rfl) ⟨Nat.le_of_ble_eq_true rfl, Nat.le_of_ble_eq_true rfl⟩ d_PM_init_54 (fun na54 H locs w => ?_)
  have w : Wd xCl E A s.heap H locs [(h0, .inr (0, [.ref q5, .ref q16, .ref q27, .null, .null, .null])), (q5, .inr (1, [.ref (na9 0)])), ((na9 0), .inl (E.2.1.1, 65536, .inl (fun _ => 0))), (q16, .inr (2, [.ref (na20 0), .int 0, .int 0])), ((na20 0), .inl (E.2.1.1, 32, .inl (upd (upd (fun _ => 0) (Int32.toNatClampNeg (1 : Int32)) (31 : Int32)) (Int32.toNatClampNeg (15 : Int32)) (98304 : Int32)))), (q27, .inr (3, [.ref (na31 0), .ref (na31 1), .ref (na31 2), .ref (na31 3), .ref (na31 4)])), ((na31 0), .inl (E.2.1.1, 32, .inl (fun _ => 0))), ((na31 1), .inl (E.2.1.1, 32, .inl (fun _ => 0))), ((na31 2), .inl (E.2.1.1, 32, .inl (fun _ => 0))), ((na31 3), .inl (E.2.1.1, 32, .inl (fun _ => 0))), ((na31 4), .inl (E.2.1.1, 32, .inl (fun _ => 0))), (q38, .inr (4, [.ref q5, .ref q16, .ref q27, .int 0]))] := w
  refine k_putF (ty := (.object "PageMachine$AddressSpace")) hc hin w i_PM ty_PM tyok_PM nm_PM 0 rfl rfl 3 (by decide) rfl rfl (by decide +kernel) rfl rfl (Nat.le_of_ble_eq_true rfl) (ws' := [(h0, .inr (0, [.ref q5, .ref q16, .ref q27, .ref q38, .null, .null])), (q5, .inr (1, [.ref (na9 0)])), ((na9 0), .inl (E.2.1.1, 65536, .inl (fun _ => 0))), (q16, .inr (2, [.ref (na20 0), .int 0, .int 0])), ((na20 0), .inl (E.2.1.1, 32, .inl (upd (upd (fun _ => 0) (Int32.toNatClampNeg (1 : Int32)) (31 : Int32)) (Int32.toNatClampNeg (15 : Int32)) (98304 : Int32)))), (q27, .inr (3, [.ref (na31 0), .ref (na31 1), .ref (na31 2), .ref (na31 3), .ref (na31 4)])), ((na31 0), .inl (E.2.1.1, 32, .inl (fun _ => 0))), ((na31 1), .inl (E.2.1.1, 32, .inl (fun _ => 0))), ((na31 2), .inl (E.2.1.1, 32, .inl (fun _ => 0))), ((na31 3), .inl (E.2.1.1, 32, .inl (fun _ => 0))), ((na31 4), .inl (E.2.1.1, 32, .inl (fun _ => 0))), (q38, .inr (4, [.ref q5, .ref q16, .ref q27, .int 0]))]) rfl mw_241 d_PM_init_57 (fun H locs w => ?_)
  refine lv_aload_n hx hb d_PM_init_60 rfl (lv_at hl 0 rfl) ?_
  refine k_new (ci := 5) (fs := [.int 0, .int 0, .int 0, .int 0, .int 0, .null, .int 0, .int 0, .int 0, .int 0]) hc w i_CO ty_CO tyok_CO mw_98 mw_99 mw_6 rfl (fun j hj => by match j, hj with | 0, _ => rfl | 1, _ => rfl | 2, _ => rfl | 3, _ => rfl | 4, _ => rfl | 5, _ => rfl | 6, _ => rfl | 7, _ => rfl | 8, _ => rfl | 9, _ => rfl | n + 10, h => exact absurd h (by omega)) (Nat.le_of_ble_eq_true rfl) (Nat.le_of_ble_eq_true rfl) d_PM_init_61 (fun q61 H w => ?_)
  have w : Wd xCl E A s.heap H _ [(h0, .inr (0, [.ref q5, .ref q16, .ref q27, .ref q38, .null, .null])), (q5, .inr (1, [.ref (na9 0)])), ((na9 0), .inl (E.2.1.1, 65536, .inl (fun _ => 0))), (q16, .inr (2, [.ref (na20 0), .int 0, .int 0])), ((na20 0), .inl (E.2.1.1, 32, .inl (upd (upd (fun _ => 0) (Int32.toNatClampNeg (1 : Int32)) (31 : Int32)) (Int32.toNatClampNeg (15 : Int32)) (98304 : Int32)))), (q27, .inr (3, [.ref (na31 0), .ref (na31 1), .ref (na31 2), .ref (na31 3), .ref (na31 4)])), ((na31 0), .inl (E.2.1.1, 32, .inl (fun _ => 0))), ((na31 1), .inl (E.2.1.1, 32, .inl (fun _ => 0))), ((na31 2), .inl (E.2.1.1, 32, .inl (fun _ => 0))), ((na31 3), .inl (E.2.1.1, 32, .inl (fun _ => 0))), ((na31 4), .inl (E.2.1.1, 32, .inl (fun _ => 0))), (q38, .inr (4, [.ref q5, .ref q16, .ref q27, .int 0])), (q61, .inr (5, [.int 0, .int 0, .int 0, .int 0, .int 0, .null, .int 0, .int 0, .int 0, .int 0]))] := w
  refine lv_dup hx hb d_PM_init_64 rfl ?_
  refine k_callN (wr := [(h0, .inr (0, [.ref q5, .ref q16, .ref q27, .ref q38, .null, .null])), (q5, .inr (1, [.ref (na9 0)])), ((na9 0), .inl (E.2.1.1, 65536, .inl (fun _ => 0))), (q16, .inr (2, [.ref (na20 0), .int 0, .int 0])), ((na20 0), .inl (E.2.1.1, 32, .inl (upd (upd (fun _ => 0) (Int32.toNatClampNeg (1 : Int32)) (31 : Int32)) (Int32.toNatClampNeg (15 : Int32)) (98304 : Int32)))), (q27, .inr (3, [.ref (na31 0), .ref (na31 1), .ref (na31 2), .ref (na31 3), .ref (na31 4)])), ((na31 0), .inl (E.2.1.1, 32, .inl (fun _ => 0))), ((na31 1), .inl (E.2.1.1, 32, .inl (fun _ => 0))), ((na31 2), .inl (E.2.1.1, 32, .inl (fun _ => 0))), ((na31 3), .inl (E.2.1.1, 32, .inl (fun _ => 0))), ((na31 4), .inl (E.2.1.1, 32, .inl (fun _ => 0))), (q38, .inr (4, [.ref q5, .ref q16, .ref q27, .int 0]))]) (rest := [.ref q61, .ref h0]) hc w (c_CO_init l E q61) ki_CO_init (fun h => h.elim) (hnt trivial).2.2 ⟨Nat.le_of_ble_eq_true rfl, Nat.le_of_ble_eq_true rfl⟩ hl.1 rfl (Nat.le_of_ble_eq_true rfl) ⟨Nat.le_of_ble_eq_true rfl, Nat.le_of_ble_eq_true rfl⟩ d_PM_init_65 (fun na65 H locs w => ?_)
  have w : Wd xCl E A s.heap H locs [(h0, .inr (0, [.ref q5, .ref q16, .ref q27, .ref q38, .null, .null])), (q5, .inr (1, [.ref (na9 0)])), ((na9 0), .inl (E.2.1.1, 65536, .inl (fun _ => 0))), (q16, .inr (2, [.ref (na20 0), .int 0, .int 0])), ((na20 0), .inl (E.2.1.1, 32, .inl (upd (upd (fun _ => 0) (Int32.toNatClampNeg (1 : Int32)) (31 : Int32)) (Int32.toNatClampNeg (15 : Int32)) (98304 : Int32)))), (q27, .inr (3, [.ref (na31 0), .ref (na31 1), .ref (na31 2), .ref (na31 3), .ref (na31 4)])), ((na31 0), .inl (E.2.1.1, 32, .inl (fun _ => 0))), ((na31 1), .inl (E.2.1.1, 32, .inl (fun _ => 0))), ((na31 2), .inl (E.2.1.1, 32, .inl (fun _ => 0))), ((na31 3), .inl (E.2.1.1, 32, .inl (fun _ => 0))), ((na31 4), .inl (E.2.1.1, 32, .inl (fun _ => 0))), (q38, .inr (4, [.ref q5, .ref q16, .ref q27, .int 0])), (q61, .inr (5, [.int 0, .int 0, .int (-2147483648 : Int32), .int 0, .int 0, .ref (na65 0), .int 0, .int 0, .int 0, .int 0])), ((na65 0), .inl (E.2.1.1, 32, .inl (fun _ => 0)))] := w
  refine k_putF (ty := (.object "PageMachine$Core")) hc hin w i_PM ty_PM tyok_PM nm_PM 0 rfl rfl 4 (by decide) rfl rfl (by decide +kernel) rfl rfl (Nat.le_of_ble_eq_true rfl) (ws' := [(h0, .inr (0, [.ref q5, .ref q16, .ref q27, .ref q38, .ref q61, .null])), (q5, .inr (1, [.ref (na9 0)])), ((na9 0), .inl (E.2.1.1, 65536, .inl (fun _ => 0))), (q16, .inr (2, [.ref (na20 0), .int 0, .int 0])), ((na20 0), .inl (E.2.1.1, 32, .inl (upd (upd (fun _ => 0) (Int32.toNatClampNeg (1 : Int32)) (31 : Int32)) (Int32.toNatClampNeg (15 : Int32)) (98304 : Int32)))), (q27, .inr (3, [.ref (na31 0), .ref (na31 1), .ref (na31 2), .ref (na31 3), .ref (na31 4)])), ((na31 0), .inl (E.2.1.1, 32, .inl (fun _ => 0))), ((na31 1), .inl (E.2.1.1, 32, .inl (fun _ => 0))), ((na31 2), .inl (E.2.1.1, 32, .inl (fun _ => 0))), ((na31 3), .inl (E.2.1.1, 32, .inl (fun _ => 0))), ((na31 4), .inl (E.2.1.1, 32, .inl (fun _ => 0))), (q38, .inr (4, [.ref q5, .ref q16, .ref q27, .int 0])), (q61, .inr (5, [.int 0, .int 0, .int (-2147483648 : Int32), .int 0, .int 0, .ref (na65 0), .int 0, .int 0, .int 0, .int 0])), ((na65 0), .inl (E.2.1.1, 32, .inl (fun _ => 0)))]) rfl mw_242 d_PM_init_68 (fun H locs w => ?_)
  refine lv_aload_n hx hb d_PM_init_71 rfl (lv_at hl 0 rfl) ?_
  refine k_new (ci := 6) (fs := [.null, .null, .null, .null, .null, .null, .null, .null, .null, .int 0]) hc w i_PR ty_PR tyok_PR mw_149 mw_150 mw_7 rfl (fun j hj => by match j, hj with | 0, _ => rfl | 1, _ => rfl | 2, _ => rfl | 3, _ => rfl | 4, _ => rfl | 5, _ => rfl | 6, _ => rfl | 7, _ => rfl | 8, _ => rfl | 9, _ => rfl | n + 10, h => exact absurd h (by omega)) (Nat.le_of_ble_eq_true rfl) (Nat.le_of_ble_eq_true rfl) d_PM_init_72 (fun q72 H w => ?_)
  have w : Wd xCl E A s.heap H _ [(h0, .inr (0, [.ref q5, .ref q16, .ref q27, .ref q38, .ref q61, .null])), (q5, .inr (1, [.ref (na9 0)])), ((na9 0), .inl (E.2.1.1, 65536, .inl (fun _ => 0))), (q16, .inr (2, [.ref (na20 0), .int 0, .int 0])), ((na20 0), .inl (E.2.1.1, 32, .inl (upd (upd (fun _ => 0) (Int32.toNatClampNeg (1 : Int32)) (31 : Int32)) (Int32.toNatClampNeg (15 : Int32)) (98304 : Int32)))), (q27, .inr (3, [.ref (na31 0), .ref (na31 1), .ref (na31 2), .ref (na31 3), .ref (na31 4)])), ((na31 0), .inl (E.2.1.1, 32, .inl (fun _ => 0))), ((na31 1), .inl (E.2.1.1, 32, .inl (fun _ => 0))), ((na31 2), .inl (E.2.1.1, 32, .inl (fun _ => 0))), ((na31 3), .inl (E.2.1.1, 32, .inl (fun _ => 0))), ((na31 4), .inl (E.2.1.1, 32, .inl (fun _ => 0))), (q38, .inr (4, [.ref q5, .ref q16, .ref q27, .int 0])), (q61, .inr (5, [.int 0, .int 0, .int (-2147483648 : Int32), .int 0, .int 0, .ref (na65 0), .int 0, .int 0, .int 0, .int 0])), ((na65 0), .inl (E.2.1.1, 32, .inl (fun _ => 0))), (q72, .inr (6, [.null, .null, .null, .null, .null, .null, .null, .null, .null, .int 0]))] := w
  refine lv_dup hx hb d_PM_init_75 rfl ?_
  refine lv_aload_n hx hb d_PM_init_76 rfl (lv_at hl 0 rfl) ?_
  refine rg (v := .ref q61) hc w i_PM 0 rfl rfl 4 (by decide) rfl mw_242 d_PM_init_77 ?_
  refine lv_aload_n hx hb d_PM_init_80 rfl (lv_at hl 0 rfl) ?_
  refine rg (v := .ref q5) hc w i_PM 0 rfl rfl 0 (by decide) rfl mw_238 d_PM_init_81 ?_
  refine lv_aload_n hx hb d_PM_init_84 rfl (lv_at hl 0 rfl) ?_
  refine rg (v := .ref q16) hc w i_PM 0 rfl rfl 1 (by decide) rfl mw_239 d_PM_init_85 ?_
  refine lv_aload_n hx hb d_PM_init_88 rfl (lv_at hl 0 rfl) ?_
  refine rg (v := .ref q27) hc w i_PM 0 rfl rfl 2 (by decide) rfl mw_240 d_PM_init_89 ?_
  refine lv_aload_n hx hb d_PM_init_92 rfl (lv_at hl 0 rfl) ?_
  refine rg (v := .ref q38) hc w i_PM 0 rfl rfl 3 (by decide) rfl mw_241 d_PM_init_93 ?_
  refine k_call (wr := [(h0, .inr (0, [.ref q5, .ref q16, .ref q27, .ref q38, .ref q61, .null])), (q5, .inr (1, [.ref (na9 0)])), ((na9 0), .inl (E.2.1.1, 65536, .inl (fun _ => 0))), (q16, .inr (2, [.ref (na20 0), .int 0, .int 0])), ((na20 0), .inl (E.2.1.1, 32, .inl (upd (upd (fun _ => 0) (Int32.toNatClampNeg (1 : Int32)) (31 : Int32)) (Int32.toNatClampNeg (15 : Int32)) (98304 : Int32)))), (q27, .inr (3, [.ref (na31 0), .ref (na31 1), .ref (na31 2), .ref (na31 3), .ref (na31 4)])), ((na31 0), .inl (E.2.1.1, 32, .inl (fun _ => 0))), ((na31 1), .inl (E.2.1.1, 32, .inl (fun _ => 0))), ((na31 2), .inl (E.2.1.1, 32, .inl (fun _ => 0))), ((na31 3), .inl (E.2.1.1, 32, .inl (fun _ => 0))), ((na31 4), .inl (E.2.1.1, 32, .inl (fun _ => 0))), (q38, .inr (4, [.ref q5, .ref q16, .ref q27, .int 0])), (q61, .inr (5, [.int 0, .int 0, .int (-2147483648 : Int32), .int 0, .int 0, .ref (na65 0), .int 0, .int 0, .int 0, .int 0])), ((na65 0), .inl (E.2.1.1, 32, .inl (fun _ => 0)))]) (rest := [.ref q72, .ref h0]) hc w (c_PR_init l E q72 q61 q5 q16 q27 q38) ki_PR_init (fun h => h.elim) mw_151 ⟨Nat.le_of_ble_eq_true rfl, Nat.le_of_ble_eq_true rfl⟩ hl.1 rfl (Nat.le_of_ble_eq_true rfl) ⟨Nat.le_of_ble_eq_true rfl, Nat.le_of_ble_eq_true rfl⟩ d_PM_init_96 (fun na96 H locs w => ?_)
  have w : Wd xCl E A s.heap H locs [(h0, .inr (0, [.ref q5, .ref q16, .ref q27, .ref q38, .ref q61, .null])), (q5, .inr (1, [.ref (na9 0)])), ((na9 0), .inl (E.2.1.1, 65536, .inl (fun _ => 0))), (q16, .inr (2, [.ref (na20 0), .int 0, .int 0])), ((na20 0), .inl (E.2.1.1, 32, .inl (upd (upd (fun _ => 0) (Int32.toNatClampNeg (1 : Int32)) (31 : Int32)) (Int32.toNatClampNeg (15 : Int32)) (98304 : Int32)))), (q27, .inr (3, [.ref (na31 0), .ref (na31 1), .ref (na31 2), .ref (na31 3), .ref (na31 4)])), ((na31 0), .inl (E.2.1.1, 32, .inl (fun _ => 0))), ((na31 1), .inl (E.2.1.1, 32, .inl (fun _ => 0))), ((na31 2), .inl (E.2.1.1, 32, .inl (fun _ => 0))), ((na31 3), .inl (E.2.1.1, 32, .inl (fun _ => 0))), ((na31 4), .inl (E.2.1.1, 32, .inl (fun _ => 0))), (q38, .inr (4, [.ref q5, .ref q16, .ref q27, .int 0])), (q61, .inr (5, [.int 0, .int 0, .int (-2147483648 : Int32), .int 0, .int 0, .ref (na65 0), .int 0, .int 0, .int 0, .int 0])), ((na65 0), .inl (E.2.1.1, 32, .inl (fun _ => 0))), (q72, .inr (6, [.ref q61, .ref q5, .ref q16, .ref q38, .ref (na96 1), .ref (na96 2), .ref (na96 3), .ref (na96 4), .ref (na96 0), .int 0])), ((na96 0), .inl (E.2.1.1, 14, .inl (fun _ => 0))), ((na96 1), .inr (7, [.ref q61])), ((na96 2), .inr (8, [.ref q61])), ((na96 3), .inr (9, [.ref q61, .ref q5, .ref q38])), ((na96 4), .inr (10, [.ref q61, .ref q16, .ref q27]))] := w
  refine k_putF (ty := (.object "PageMachine$Processor")) hc hin w i_PM ty_PM tyok_PM nm_PM 0 rfl rfl 5 (by decide) rfl rfl (by decide +kernel) rfl rfl (Nat.le_of_ble_eq_true rfl) (ws' := [(h0, .inr (0, [.ref q5, .ref q16, .ref q27, .ref q38, .ref q61, .ref q72])), (q5, .inr (1, [.ref (na9 0)])), ((na9 0), .inl (E.2.1.1, 65536, .inl (fun _ => 0))), (q16, .inr (2, [.ref (na20 0), .int 0, .int 0])), ((na20 0), .inl (E.2.1.1, 32, .inl (upd (upd (fun _ => 0) (Int32.toNatClampNeg (1 : Int32)) (31 : Int32)) (Int32.toNatClampNeg (15 : Int32)) (98304 : Int32)))), (q27, .inr (3, [.ref (na31 0), .ref (na31 1), .ref (na31 2), .ref (na31 3), .ref (na31 4)])), ((na31 0), .inl (E.2.1.1, 32, .inl (fun _ => 0))), ((na31 1), .inl (E.2.1.1, 32, .inl (fun _ => 0))), ((na31 2), .inl (E.2.1.1, 32, .inl (fun _ => 0))), ((na31 3), .inl (E.2.1.1, 32, .inl (fun _ => 0))), ((na31 4), .inl (E.2.1.1, 32, .inl (fun _ => 0))), (q38, .inr (4, [.ref q5, .ref q16, .ref q27, .int 0])), (q61, .inr (5, [.int 0, .int 0, .int (-2147483648 : Int32), .int 0, .int 0, .ref (na65 0), .int 0, .int 0, .int 0, .int 0])), ((na65 0), .inl (E.2.1.1, 32, .inl (fun _ => 0))), (q72, .inr (6, [.ref q61, .ref q5, .ref q16, .ref q38, .ref (na96 1), .ref (na96 2), .ref (na96 3), .ref (na96 4), .ref (na96 0), .int 0])), ((na96 0), .inl (E.2.1.1, 14, .inl (fun _ => 0))), ((na96 1), .inr (7, [.ref q61])), ((na96 2), .inr (8, [.ref q61])), ((na96 3), .inr (9, [.ref q61, .ref q5, .ref q38])), ((na96 4), .inr (10, [.ref q61, .ref q16, .ref q27]))]) rfl mw_243 d_PM_init_99 (fun H locs w => ?_)
  have w : Wd xCl E A s.heap H locs (xW E (ax h0 (fun k => match k with | 0 => q5 | 1 => q16 | 2 => q27 | 3 => q38 | 4 => q61 | 5 => q72 | 6 => (na96 1) | 7 => (na96 2) | 8 => (na96 3) | 9 => (na96 4) | 10 => (na9 0) | 11 => (na20 0) | 12 => (na31 0) | 13 => (na31 1) | 14 => (na31 2) | 15 => (na31 3) | 16 => (na31 4) | 17 => (na65 0) | 18 => (na96 0) | _ => 0)) x0) := w.perm [0, 1, 3, 5, 11, 12, 14, 16, 17, 18, 19, 2, 4, 6, 7, 8, 9, 10, 13, 15] (by decide) rfl
  exact k_ret (w1 := fun na => xW E (ax h0 na) x0) hc (fun k => match k with | 0 => q5 | 1 => q16 | 2 => q27 | 3 => q38 | 4 => q61 | 5 => q72 | 6 => (na96 1) | 7 => (na96 2) | 8 => (na96 3) | 9 => (na96 4) | 10 => (na9 0) | 11 => (na20 0) | 12 => (na31 0) | 13 => (na31 1) | 14 => (na31 2) | 15 => (na31 3) | 16 => (na31 4) | 17 => (na65 0) | 18 => (na96 0) | _ => 0) w (Nat.le_of_ble_eq_true rfl) (Nat.le_of_ble_eq_true rfl) d_PM_init_102
def m0 : MS := (0, 0, 0, -2147483648, 0, 0, 0, -1, 0, 0, 0, false, false, false, false, false, (fun _ => 0), (fun _ => 0), (upd (upd (fun _ => 0) (Int32.toNatClampNeg (1 : Int32)) (31 : Int32)) (Int32.toNatClampNeg (15 : Int32)) (98304 : Int32)), (fun _ => 0), (fun _ => 0), (fun _ => 0), (fun _ => 0), (fun _ => false), (fun _ => false))
theorem d_MO_init_0 : decode b_MO_init 0 = .ok (.aload_n 0, 1) := by decide +kernel
theorem d_MO_init_1 : decode b_MO_init 1 = .ok (.invokespecial 1, 3) := by decide +kernel
theorem d_MO_init_4 : decode b_MO_init 4 = .ok (.aload_n 0, 1) := by decide +kernel
theorem d_MO_init_5 : decode b_MO_init 5 = .ok (.ldc 7, 2) := by decide +kernel
theorem d_MO_init_7 : decode b_MO_init 7 = .ok (.newarray .int, 2) := by decide +kernel
theorem d_MO_init_9 : decode b_MO_init 9 = .ok (.putfield 8, 3) := by decide +kernel
theorem d_MO_init_12 : decode b_MO_init 12 = .ok (.aload_n 0, 1) := by decide +kernel
theorem d_MO_init_13 : decode b_MO_init 13 = .ok (.bipush 32, 2) := by decide +kernel
theorem d_MO_init_15 : decode b_MO_init 15 = .ok (.newarray .int, 2) := by decide +kernel
theorem d_MO_init_17 : decode b_MO_init 17 = .ok (.putfield 14, 3) := by decide +kernel
theorem d_MO_init_20 : decode b_MO_init 20 = .ok (.aload_n 0, 1) := by decide +kernel
theorem d_MO_init_21 : decode b_MO_init 21 = .ok (.bipush 32, 2) := by decide +kernel
theorem d_MO_init_23 : decode b_MO_init 23 = .ok (.newarray .int, 2) := by decide +kernel
theorem d_MO_init_25 : decode b_MO_init 25 = .ok (.putfield 17, 3) := by decide +kernel
theorem d_MO_init_28 : decode b_MO_init 28 = .ok (.aload_n 0, 1) := by decide +kernel
theorem d_MO_init_29 : decode b_MO_init 29 = .ok (.bipush 6, 2) := by decide +kernel
theorem d_MO_init_31 : decode b_MO_init 31 = .ok (.newarray .boolean, 2) := by decide +kernel
theorem d_MO_init_33 : decode b_MO_init 33 = .ok (.putfield 20, 3) := by decide +kernel
theorem d_MO_init_36 : decode b_MO_init 36 = .ok (.aload_n 0, 1) := by decide +kernel
theorem d_MO_init_37 : decode b_MO_init 37 = .ok (.bipush 32, 2) := by decide +kernel
theorem d_MO_init_39 : decode b_MO_init 39 = .ok (.newarray .int, 2) := by decide +kernel
theorem d_MO_init_41 : decode b_MO_init 41 = .ok (.putfield 24, 3) := by decide +kernel
theorem d_MO_init_44 : decode b_MO_init 44 = .ok (.aload_n 0, 1) := by decide +kernel
theorem d_MO_init_45 : decode b_MO_init 45 = .ok (.bipush 32, 2) := by decide +kernel
theorem d_MO_init_47 : decode b_MO_init 47 = .ok (.newarray .int, 2) := by decide +kernel
theorem d_MO_init_49 : decode b_MO_init 49 = .ok (.putfield 27, 3) := by decide +kernel
theorem d_MO_init_52 : decode b_MO_init 52 = .ok (.aload_n 0, 1) := by decide +kernel
theorem d_MO_init_53 : decode b_MO_init 53 = .ok (.bipush 32, 2) := by decide +kernel
theorem d_MO_init_55 : decode b_MO_init 55 = .ok (.newarray .boolean, 2) := by decide +kernel
theorem d_MO_init_57 : decode b_MO_init 57 = .ok (.putfield 30, 3) := by decide +kernel
theorem d_MO_init_60 : decode b_MO_init 60 = .ok (.aload_n 0, 1) := by decide +kernel
theorem d_MO_init_61 : decode b_MO_init 61 = .ok (.bipush 64, 2) := by decide +kernel
theorem d_MO_init_63 : decode b_MO_init 63 = .ok (.newarray .int, 2) := by decide +kernel
theorem d_MO_init_65 : decode b_MO_init 65 = .ok (.putfield 33, 3) := by decide +kernel
theorem d_MO_init_68 : decode b_MO_init 68 = .ok (.aload_n 0, 1) := by decide +kernel
theorem d_MO_init_69 : decode b_MO_init 69 = .ok (.bipush 14, 2) := by decide +kernel
theorem d_MO_init_71 : decode b_MO_init 71 = .ok (.newarray .int, 2) := by decide +kernel
theorem d_MO_init_73 : decode b_MO_init 73 = .ok (.putfield 36, 3) := by decide +kernel
theorem d_MO_init_76 : decode b_MO_init 76 = .ok (.aload_n 0, 1) := by decide +kernel
theorem d_MO_init_77 : decode b_MO_init 77 = .ok (.ldc 39, 2) := by decide +kernel
theorem d_MO_init_79 : decode b_MO_init 79 = .ok (.putfield 40, 3) := by decide +kernel
theorem d_MO_init_82 : decode b_MO_init 82 = .ok (.aload_n 0, 1) := by decide +kernel
theorem d_MO_init_83 : decode b_MO_init 83 = .ok (.getfield 17, 3) := by decide +kernel
theorem d_MO_init_86 : decode b_MO_init 86 = .ok (.iconst 1, 1) := by decide +kernel
theorem d_MO_init_87 : decode b_MO_init 87 = .ok (.bipush 31, 2) := by decide +kernel
theorem d_MO_init_89 : decode b_MO_init 89 = .ok (.iastore, 1) := by decide +kernel
theorem d_MO_init_90 : decode b_MO_init 90 = .ok (.aload_n 0, 1) := by decide +kernel
theorem d_MO_init_91 : decode b_MO_init 91 = .ok (.getfield 17, 3) := by decide +kernel
theorem d_MO_init_94 : decode b_MO_init 94 = .ok (.bipush 15, 2) := by decide +kernel
theorem d_MO_init_96 : decode b_MO_init 96 = .ok (.ldc 44, 2) := by decide +kernel
theorem d_MO_init_98 : decode b_MO_init 98 = .ok (.iastore, 1) := by decide +kernel
theorem d_MO_init_99 : decode b_MO_init 99 = .ok (.aload_n 0, 1) := by decide +kernel
theorem d_MO_init_100 : decode b_MO_init 100 = .ok (.iconst (-1), 1) := by decide +kernel
theorem d_MO_init_101 : decode b_MO_init 101 = .ok (.putfield 45, 3) := by decide +kernel
theorem d_MO_init_104 : decode b_MO_init 104 = .ok (.return_, 1) := by decide +kernel
theorem ki_MO_init : KI y_MO_init b_MO_init 1 0 := ⟨mc_MO_init, mw_880, mw_12, rfl, by decide +kernel⟩
set_option maxHeartbeats 4000000 in
set_option maxRecDepth 100000 in
theorem c_MO_init (l : Launch) (E : Ev) (h0 : Nat) : kC xCl l E False y_MO_init b_MO_init 1 1 9 65780 12 [.ref h0] [(h0, .inr (11, [.int 0, .null, .null, .int 0, .int 0, .int 0, .int 0, .int 0, .int 0, .null, .int 0, .null, .null, .null, .null, .null, .int 0, .null, .int 0, .int 0, .int 0, .int 0, .int 0, .int 0, .int 0]))] (fun na => mW E (ax h0 na) m0) := by
  refine kC.of (by decide) rfl (Nat.le_of_ble_eq_true rfl) ?_
  intro p e s m below meth c A ls hc hin hnt w hl
  have hc : Cx xCl E A p s m ([.ref h0] : List Value).toArray meth c b_MO_init 1 none "PageMachineModel" := hc
  have hx := hc.1
  have hb := hc.2.1
  have ho := hc.2.2.2.2.2.1
  have hT := hc.2.2.2.2.2.2.1
  have hl : lv_has ls 1 [(0, .ref h0)] := hl
  refine lv_aload_n hx hb d_MO_init_0 rfl (lv_at hl 0 rfl) ?_
  refine k_obj hc mw_882 mw_26 mc_obj hl.1 d_MO_init_1 (Nat.le_of_ble_eq_true rfl) (Nat.le_of_ble_eq_true rfl) ?_
  refine lv_aload_n hx hb d_MO_init_4 rfl (lv_at hl 0 rfl) ?_
  refine lv_ldc (v := 65536) hx hb ho (hT _ mw_883) d_MO_init_5 ?_
  refine k_arrI (N := 65536) hc w mw_39 (by decide) (by decide) (Nat.le_of_ble_eq_true rfl) (Nat.le_of_ble_eq_true rfl) (Nat.le_of_ble_eq_true rfl) d_MO_init_7 (fun q7 H w => ?_)
  have w : Wd xCl E A s.heap H _ [(h0, .inr (11, [.int 0, .null, .null, .int 0, .int 0, .int 0, .int 0, .int 0, .int 0, .null, .int 0, .null, .null, .null, .null, .null, .int 0, .null, .int 0, .int 0, .int 0, .int 0, .int 0, .int 0, .int 0])), (q7, .inl (E.2.1.1, 65536, .inl (fun _ => 0)))] := w
  refine k_putF (ty := (.array .int)) hc hin w i_MO ty_MO tyok_MO nm_MO 0 rfl rfl 1 (by decide) rfl rfl (by decide +kernel) rfl rfl (Nat.le_of_ble_eq_true rfl) (ws' := [(h0, .inr (11, [.int 0, .ref q7, .null, .int 0, .int 0, .int 0, .int 0, .int 0, .int 0, .null, .int 0, .null, .null, .null, .null, .null, .int 0, .null, .int 0, .int 0, .int 0, .int 0, .int 0, .int 0, .int 0])), (q7, .inl (E.2.1.1, 65536, .inl (fun _ => 0)))]) rfl mw_887 d_MO_init_9 (fun H locs w => ?_)
  refine lv_aload_n hx hb d_MO_init_12 rfl (lv_at hl 0 rfl) ?_
  refine lv_bipush (v := 32) hx hb d_MO_init_13 (by decide) ?_
  refine k_arrI (N := 32) hc w mw_39 (by decide) (by decide) (Nat.le_of_ble_eq_true rfl) (Nat.le_of_ble_eq_true rfl) (Nat.le_of_ble_eq_true rfl) d_MO_init_15 (fun q15 H w => ?_)
  have w : Wd xCl E A s.heap H _ [(h0, .inr (11, [.int 0, .ref q7, .null, .int 0, .int 0, .int 0, .int 0, .int 0, .int 0, .null, .int 0, .null, .null, .null, .null, .null, .int 0, .null, .int 0, .int 0, .int 0, .int 0, .int 0, .int 0, .int 0])), (q7, .inl (E.2.1.1, 65536, .inl (fun _ => 0))), (q15, .inl (E.2.1.1, 32, .inl (fun _ => 0)))] := w
  refine k_putF (ty := (.array .int)) hc hin w i_MO ty_MO tyok_MO nm_MO 0 rfl rfl 2 (by decide) rfl rfl (by decide +kernel) rfl rfl (Nat.le_of_ble_eq_true rfl) (ws' := [(h0, .inr (11, [.int 0, .ref q7, .ref q15, .int 0, .int 0, .int 0, .int 0, .int 0, .int 0, .null, .int 0, .null, .null, .null, .null, .null, .int 0, .null, .int 0, .int 0, .int 0, .int 0, .int 0, .int 0, .int 0])), (q7, .inl (E.2.1.1, 65536, .inl (fun _ => 0))), (q15, .inl (E.2.1.1, 32, .inl (fun _ => 0)))]) rfl mw_888 d_MO_init_17 (fun H locs w => ?_)
  refine lv_aload_n hx hb d_MO_init_20 rfl (lv_at hl 0 rfl) ?_
  refine lv_bipush (v := 32) hx hb d_MO_init_21 (by decide) ?_
  refine k_arrI (N := 32) hc w mw_39 (by decide) (by decide) (Nat.le_of_ble_eq_true rfl) (Nat.le_of_ble_eq_true rfl) (Nat.le_of_ble_eq_true rfl) d_MO_init_23 (fun q23 H w => ?_)
  have w : Wd xCl E A s.heap H _ [(h0, .inr (11, [.int 0, .ref q7, .ref q15, .int 0, .int 0, .int 0, .int 0, .int 0, .int 0, .null, .int 0, .null, .null, .null, .null, .null, .int 0, .null, .int 0, .int 0, .int 0, .int 0, .int 0, .int 0, .int 0])), (q7, .inl (E.2.1.1, 65536, .inl (fun _ => 0))), (q15, .inl (E.2.1.1, 32, .inl (fun _ => 0))), (q23, .inl (E.2.1.1, 32, .inl (fun _ => 0)))] := w
  refine k_putF (ty := (.array .int)) hc hin w i_MO ty_MO tyok_MO nm_MO 0 rfl rfl 9 (by decide) rfl rfl (by decide +kernel) rfl rfl (Nat.le_of_ble_eq_true rfl) (ws' := [(h0, .inr (11, [.int 0, .ref q7, .ref q15, .int 0, .int 0, .int 0, .int 0, .int 0, .int 0, .ref q23, .int 0, .null, .null, .null, .null, .null, .int 0, .null, .int 0, .int 0, .int 0, .int 0, .int 0, .int 0, .int 0])), (q7, .inl (E.2.1.1, 65536, .inl (fun _ => 0))), (q15, .inl (E.2.1.1, 32, .inl (fun _ => 0))), (q23, .inl (E.2.1.1, 32, .inl (fun _ => 0)))]) rfl mw_895 d_MO_init_25 (fun H locs w => ?_)
  refine lv_aload_n hx hb d_MO_init_28 rfl (lv_at hl 0 rfl) ?_
  refine lv_bipush (v := 6) hx hb d_MO_init_29 (by decide) ?_
  refine k_arrZ (N := 6) hc w mw_962 (by decide) (by decide) (Nat.le_of_ble_eq_true rfl) (Nat.le_of_ble_eq_true rfl) (Nat.le_of_ble_eq_true rfl) d_MO_init_31 (fun q31 H w => ?_)
  have w : Wd xCl E A s.heap H _ [(h0, .inr (11, [.int 0, .ref q7, .ref q15, .int 0, .int 0, .int 0, .int 0, .int 0, .int 0, .ref q23, .int 0, .null, .null, .null, .null, .null, .int 0, .null, .int 0, .int 0, .int 0, .int 0, .int 0, .int 0, .int 0])), (q7, .inl (E.2.1.1, 65536, .inl (fun _ => 0))), (q15, .inl (E.2.1.1, 32, .inl (fun _ => 0))), (q23, .inl (E.2.1.1, 32, .inl (fun _ => 0))), (q31, .inl (E.2.1.2.1, 6, .inl (fun _ => 0)))] := w
  refine k_putF (ty := (.array .boolean)) hc hin w i_MO ty_MO tyok_MO nm_MO 0 rfl rfl 11 (by decide) rfl rfl (by decide +kernel) rfl rfl (Nat.le_of_ble_eq_true rfl) (ws' := [(h0, .inr (11, [.int 0, .ref q7, .ref q15, .int 0, .int 0, .int 0, .int 0, .int 0, .int 0, .ref q23, .int 0, .ref q31, .null, .null, .null, .null, .int 0, .null, .int 0, .int 0, .int 0, .int 0, .int 0, .int 0, .int 0])), (q7, .inl (E.2.1.1, 65536, .inl (fun _ => 0))), (q15, .inl (E.2.1.1, 32, .inl (fun _ => 0))), (q23, .inl (E.2.1.1, 32, .inl (fun _ => 0))), (q31, .inl (E.2.1.2.1, 6, .inl (fun _ => 0)))]) rfl mw_897 d_MO_init_33 (fun H locs w => ?_)
  refine lv_aload_n hx hb d_MO_init_36 rfl (lv_at hl 0 rfl) ?_
  refine lv_bipush (v := 32) hx hb d_MO_init_37 (by decide) ?_
  refine k_arrI (N := 32) hc w mw_39 (by decide) (by decide) (Nat.le_of_ble_eq_true rfl) (Nat.le_of_ble_eq_true rfl) (Nat.le_of_ble_eq_true rfl) d_MO_init_39 (fun q39 H w => ?_)
  have w : Wd xCl E A s.heap H _ [(h0, .inr (11, [.int 0, .ref q7, .ref q15, .int 0, .int 0, .int 0, .int 0, .int 0, .int 0, .ref q23, .int 0, .ref q31, .null, .null, .null, .null, .int 0, .null, .int 0, .int 0, .int 0, .int 0, .int 0, .int 0, .int 0])), (q7, .inl (E.2.1.1, 65536, .inl (fun _ => 0))), (q15, .inl (E.2.1.1, 32, .inl (fun _ => 0))), (q23, .inl (E.2.1.1, 32, .inl (fun _ => 0))), (q31, .inl (E.2.1.2.1, 6, .inl (fun _ => 0))), (q39, .inl (E.2.1.1, 32, .inl (fun _ => 0)))] := w
  refine k_putF (ty := (.array .int)) hc hin w i_MO ty_MO tyok_MO nm_MO 0 rfl rfl 12 (by decide) rfl rfl (by decide +kernel) rfl rfl (Nat.le_of_ble_eq_true rfl) (ws' := [(h0, .inr (11, [.int 0, .ref q7, .ref q15, .int 0, .int 0, .int 0, .int 0, .int 0, .int 0, .ref q23, .int 0, .ref q31, .ref q39, .null, .null, .null, .int 0, .null, .int 0, .int 0, .int 0, .int 0, .int 0, .int 0, .int 0])), (q7, .inl (E.2.1.1, 65536, .inl (fun _ => 0))), (q15, .inl (E.2.1.1, 32, .inl (fun _ => 0))), (q23, .inl (E.2.1.1, 32, .inl (fun _ => 0))), (q31, .inl (E.2.1.2.1, 6, .inl (fun _ => 0))), (q39, .inl (E.2.1.1, 32, .inl (fun _ => 0)))]) rfl mw_898 d_MO_init_41 (fun H locs w => ?_)
  refine lv_aload_n hx hb d_MO_init_44 rfl (lv_at hl 0 rfl) ?_
  refine lv_bipush (v := 32) hx hb d_MO_init_45 (by decide) ?_
  refine k_arrI (N := 32) hc w mw_39 (by decide) (by decide) (Nat.le_of_ble_eq_true rfl) (Nat.le_of_ble_eq_true rfl) (Nat.le_of_ble_eq_true rfl) d_MO_init_47 (fun q47 H w => ?_)
  have w : Wd xCl E A s.heap H _ [(h0, .inr (11, [.int 0, .ref q7, .ref q15, .int 0, .int 0, .int 0, .int 0, .int 0, .int 0, .ref q23, .int 0, .ref q31, .ref q39, .null, .null, .null, .int 0, .null, .int 0, .int 0, .int 0, .int 0, .int 0, .int 0, .int 0])), (q7, .inl (E.2.1.1, 65536, .inl (fun _ => 0))), (q15, .inl (E.2.1.1, 32, .inl (fun _ => 0))), (q23, .inl (E.2.1.1, 32, .inl (fun _ => 0))), (q31, .inl (E.2.1.2.1, 6, .inl (fun _ => 0))), (q39, .inl (E.2.1.1, 32, .inl (fun _ => 0))), (q47, .inl (E.2.1.1, 32, .inl (fun _ => 0)))] := w
  refine k_putF (ty := (.array .int)) hc hin w i_MO ty_MO tyok_MO nm_MO 0 rfl rfl 13 (by decide) rfl rfl (by decide +kernel) rfl rfl (Nat.le_of_ble_eq_true rfl) (ws' := [(h0, .inr (11, [.int 0, .ref q7, .ref q15, .int 0, .int 0, .int 0, .int 0, .int 0, .int 0, .ref q23, .int 0, .ref q31, .ref q39, .ref q47, .null, .null, .int 0, .null, .int 0, .int 0, .int 0, .int 0, .int 0, .int 0, .int 0])), (q7, .inl (E.2.1.1, 65536, .inl (fun _ => 0))), (q15, .inl (E.2.1.1, 32, .inl (fun _ => 0))), (q23, .inl (E.2.1.1, 32, .inl (fun _ => 0))), (q31, .inl (E.2.1.2.1, 6, .inl (fun _ => 0))), (q39, .inl (E.2.1.1, 32, .inl (fun _ => 0))), (q47, .inl (E.2.1.1, 32, .inl (fun _ => 0)))]) rfl mw_899 d_MO_init_49 (fun H locs w => ?_)
  refine lv_aload_n hx hb d_MO_init_52 rfl (lv_at hl 0 rfl) ?_
  refine lv_bipush (v := 32) hx hb d_MO_init_53 (by decide) ?_
  refine k_arrZ (N := 32) hc w mw_962 (by decide) (by decide) (Nat.le_of_ble_eq_true rfl) (Nat.le_of_ble_eq_true rfl) (Nat.le_of_ble_eq_true rfl) d_MO_init_55 (fun q55 H w => ?_)
  have w : Wd xCl E A s.heap H _ [(h0, .inr (11, [.int 0, .ref q7, .ref q15, .int 0, .int 0, .int 0, .int 0, .int 0, .int 0, .ref q23, .int 0, .ref q31, .ref q39, .ref q47, .null, .null, .int 0, .null, .int 0, .int 0, .int 0, .int 0, .int 0, .int 0, .int 0])), (q7, .inl (E.2.1.1, 65536, .inl (fun _ => 0))), (q15, .inl (E.2.1.1, 32, .inl (fun _ => 0))), (q23, .inl (E.2.1.1, 32, .inl (fun _ => 0))), (q31, .inl (E.2.1.2.1, 6, .inl (fun _ => 0))), (q39, .inl (E.2.1.1, 32, .inl (fun _ => 0))), (q47, .inl (E.2.1.1, 32, .inl (fun _ => 0))), (q55, .inl (E.2.1.2.1, 32, .inl (fun _ => 0)))] := w
  refine k_putF (ty := (.array .boolean)) hc hin w i_MO ty_MO tyok_MO nm_MO 0 rfl rfl 14 (by decide) rfl rfl (by decide +kernel) rfl rfl (Nat.le_of_ble_eq_true rfl) (ws' := [(h0, .inr (11, [.int 0, .ref q7, .ref q15, .int 0, .int 0, .int 0, .int 0, .int 0, .int 0, .ref q23, .int 0, .ref q31, .ref q39, .ref q47, .ref q55, .null, .int 0, .null, .int 0, .int 0, .int 0, .int 0, .int 0, .int 0, .int 0])), (q7, .inl (E.2.1.1, 65536, .inl (fun _ => 0))), (q15, .inl (E.2.1.1, 32, .inl (fun _ => 0))), (q23, .inl (E.2.1.1, 32, .inl (fun _ => 0))), (q31, .inl (E.2.1.2.1, 6, .inl (fun _ => 0))), (q39, .inl (E.2.1.1, 32, .inl (fun _ => 0))), (q47, .inl (E.2.1.1, 32, .inl (fun _ => 0))), (q55, .inl (E.2.1.2.1, 32, .inl (fun _ => 0)))]) rfl mw_900 d_MO_init_57 (fun H locs w => ?_)
  refine lv_aload_n hx hb d_MO_init_60 rfl (lv_at hl 0 rfl) ?_
  refine lv_bipush (v := 64) hx hb d_MO_init_61 (by decide) ?_
  refine k_arrI (N := 64) hc w mw_39 (by decide) (by decide) (Nat.le_of_ble_eq_true rfl) (Nat.le_of_ble_eq_true rfl) (Nat.le_of_ble_eq_true rfl) d_MO_init_63 (fun q63 H w => ?_)
  have w : Wd xCl E A s.heap H _ [(h0, .inr (11, [.int 0, .ref q7, .ref q15, .int 0, .int 0, .int 0, .int 0, .int 0, .int 0, .ref q23, .int 0, .ref q31, .ref q39, .ref q47, .ref q55, .null, .int 0, .null, .int 0, .int 0, .int 0, .int 0, .int 0, .int 0, .int 0])), (q7, .inl (E.2.1.1, 65536, .inl (fun _ => 0))), (q15, .inl (E.2.1.1, 32, .inl (fun _ => 0))), (q23, .inl (E.2.1.1, 32, .inl (fun _ => 0))), (q31, .inl (E.2.1.2.1, 6, .inl (fun _ => 0))), (q39, .inl (E.2.1.1, 32, .inl (fun _ => 0))), (q47, .inl (E.2.1.1, 32, .inl (fun _ => 0))), (q55, .inl (E.2.1.2.1, 32, .inl (fun _ => 0))), (q63, .inl (E.2.1.1, 64, .inl (fun _ => 0)))] := w
  refine k_putF (ty := (.array .int)) hc hin w i_MO ty_MO tyok_MO nm_MO 0 rfl rfl 15 (by decide) rfl rfl (by decide +kernel) rfl rfl (Nat.le_of_ble_eq_true rfl) (ws' := [(h0, .inr (11, [.int 0, .ref q7, .ref q15, .int 0, .int 0, .int 0, .int 0, .int 0, .int 0, .ref q23, .int 0, .ref q31, .ref q39, .ref q47, .ref q55, .ref q63, .int 0, .null, .int 0, .int 0, .int 0, .int 0, .int 0, .int 0, .int 0])), (q7, .inl (E.2.1.1, 65536, .inl (fun _ => 0))), (q15, .inl (E.2.1.1, 32, .inl (fun _ => 0))), (q23, .inl (E.2.1.1, 32, .inl (fun _ => 0))), (q31, .inl (E.2.1.2.1, 6, .inl (fun _ => 0))), (q39, .inl (E.2.1.1, 32, .inl (fun _ => 0))), (q47, .inl (E.2.1.1, 32, .inl (fun _ => 0))), (q55, .inl (E.2.1.2.1, 32, .inl (fun _ => 0))), (q63, .inl (E.2.1.1, 64, .inl (fun _ => 0)))]) rfl mw_901 d_MO_init_65 (fun H locs w => ?_)
  refine lv_aload_n hx hb d_MO_init_68 rfl (lv_at hl 0 rfl) ?_
  refine lv_bipush (v := 14) hx hb d_MO_init_69 (by decide) ?_
  refine k_arrI (N := 14) hc w mw_39 (by decide) (by decide) (Nat.le_of_ble_eq_true rfl) (Nat.le_of_ble_eq_true rfl) (Nat.le_of_ble_eq_true rfl) d_MO_init_71 (fun q71 H w => ?_)
  have w : Wd xCl E A s.heap H _ [(h0, .inr (11, [.int 0, .ref q7, .ref q15, .int 0, .int 0, .int 0, .int 0, .int 0, .int 0, .ref q23, .int 0, .ref q31, .ref q39, .ref q47, .ref q55, .ref q63, .int 0, .null, .int 0, .int 0, .int 0, .int 0, .int 0, .int 0, .int 0])), (q7, .inl (E.2.1.1, 65536, .inl (fun _ => 0))), (q15, .inl (E.2.1.1, 32, .inl (fun _ => 0))), (q23, .inl (E.2.1.1, 32, .inl (fun _ => 0))), (q31, .inl (E.2.1.2.1, 6, .inl (fun _ => 0))), (q39, .inl (E.2.1.1, 32, .inl (fun _ => 0))), (q47, .inl (E.2.1.1, 32, .inl (fun _ => 0))), (q55, .inl (E.2.1.2.1, 32, .inl (fun _ => 0))), (q63, .inl (E.2.1.1, 64, .inl (fun _ => 0))), (q71, .inl (E.2.1.1, 14, .inl (fun _ => 0)))] := w
  refine k_putF (ty := (.array .int)) hc hin w i_MO ty_MO tyok_MO nm_MO 0 rfl rfl 17 (by decide) rfl rfl (by decide +kernel) rfl rfl (Nat.le_of_ble_eq_true rfl) (ws' := [(h0, .inr (11, [.int 0, .ref q7, .ref q15, .int 0, .int 0, .int 0, .int 0, .int 0, .int 0, .ref q23, .int 0, .ref q31, .ref q39, .ref q47, .ref q55, .ref q63, .int 0, .ref q71, .int 0, .int 0, .int 0, .int 0, .int 0, .int 0, .int 0])), (q7, .inl (E.2.1.1, 65536, .inl (fun _ => 0))), (q15, .inl (E.2.1.1, 32, .inl (fun _ => 0))), (q23, .inl (E.2.1.1, 32, .inl (fun _ => 0))), (q31, .inl (E.2.1.2.1, 6, .inl (fun _ => 0))), (q39, .inl (E.2.1.1, 32, .inl (fun _ => 0))), (q47, .inl (E.2.1.1, 32, .inl (fun _ => 0))), (q55, .inl (E.2.1.2.1, 32, .inl (fun _ => 0))), (q63, .inl (E.2.1.1, 64, .inl (fun _ => 0))), (q71, .inl (E.2.1.1, 14, .inl (fun _ => 0)))]) rfl mw_903 d_MO_init_73 (fun H locs w => ?_)
  refine lv_aload_n hx hb d_MO_init_76 rfl (lv_at hl 0 rfl) ?_
  refine lv_ldc (v := -2147483648) hx hb ho (hT _ mw_884) d_MO_init_77 ?_
  refine rp (ty := (.int)) hc w i_MO ty_MO tyok_MO nm_MO 0 rfl rfl 5 (by decide) rfl (by decide +kernel) rfl rfl (Nat.le_of_ble_eq_true rfl) (ws' := [(h0, .inr (11, [.int 0, .ref q7, .ref q15, .int 0, .int 0, .int (-2147483648 : Int32), .int 0, .int 0, .int 0, .ref q23, .int 0, .ref q31, .ref q39, .ref q47, .ref q55, .ref q63, .int 0, .ref q71, .int 0, .int 0, .int 0, .int 0, .int 0, .int 0, .int 0])), (q7, .inl (E.2.1.1, 65536, .inl (fun _ => 0))), (q15, .inl (E.2.1.1, 32, .inl (fun _ => 0))), (q23, .inl (E.2.1.1, 32, .inl (fun _ => 0))), (q31, .inl (E.2.1.2.1, 6, .inl (fun _ => 0))), (q39, .inl (E.2.1.1, 32, .inl (fun _ => 0))), (q47, .inl (E.2.1.1, 32, .inl (fun _ => 0))), (q55, .inl (E.2.1.2.1, 32, .inl (fun _ => 0))), (q63, .inl (E.2.1.1, 64, .inl (fun _ => 0))), (q71, .inl (E.2.1.1, 14, .inl (fun _ => 0)))]) rfl mw_891 d_MO_init_79 (fun H locs w => ?_)
  refine lv_aload_n hx hb d_MO_init_82 rfl (lv_at hl 0 rfl) ?_
  refine rg (v := .ref q23) hc w i_MO 0 rfl rfl 9 (by decide) rfl mw_895 d_MO_init_83 ?_
  refine lv_iconst (v := 1) hx hb d_MO_init_86 (by decide) ?_
  refine lv_bipush (v := 31) hx hb d_MO_init_87 (by decide) ?_
  refine rs hc w 3 rfl (ws' := [(h0, .inr (11, [.int 0, .ref q7, .ref q15, .int 0, .int 0, .int (-2147483648 : Int32), .int 0, .int 0, .int 0, .ref q23, .int 0, .ref q31, .ref q39, .ref q47, .ref q55, .ref q63, .int 0, .ref q71, .int 0, .int 0, .int 0, .int 0, .int 0, .int 0, .int 0])), (q7, .inl (E.2.1.1, 65536, .inl (fun _ => 0))), (q15, .inl (E.2.1.1, 32, .inl (fun _ => 0))), (q23, .inl (E.2.1.1, 32, .inl (upd (fun _ => 0) (Int32.toNatClampNeg (1 : Int32)) (31 : Int32)))), (q31, .inl (E.2.1.2.1, 6, .inl (fun _ => 0))), (q39, .inl (E.2.1.1, 32, .inl (fun _ => 0))), (q47, .inl (E.2.1.1, 32, .inl (fun _ => 0))), (q55, .inl (E.2.1.2.1, 32, .inl (fun _ => 0))), (q63, .inl (E.2.1.1, 64, .inl (fun _ => 0))), (q71, .inl (E.2.1.1, 14, .inl (fun _ => 0)))]) rfl (by unfold vp_in; decide) d_MO_init_89 (fun H locs w => ?_)
  refine lv_aload_n hx hb d_MO_init_90 rfl (lv_at hl 0 rfl) ?_
  refine rg (v := .ref q23) hc w i_MO 0 rfl rfl 9 (by decide) rfl mw_895 d_MO_init_91 ?_
  refine lv_bipush (v := 15) hx hb d_MO_init_94 (by decide) ?_
  refine lv_ldc (v := 98304) hx hb ho (hT _ mw_885) d_MO_init_96 ?_
  refine rs hc w 3 rfl (ws' := [(h0, .inr (11, [.int 0, .ref q7, .ref q15, .int 0, .int 0, .int (-2147483648 : Int32), .int 0, .int 0, .int 0, .ref q23, .int 0, .ref q31, .ref q39, .ref q47, .ref q55, .ref q63, .int 0, .ref q71, .int 0, .int 0, .int 0, .int 0, .int 0, .int 0, .int 0])), (q7, .inl (E.2.1.1, 65536, .inl (fun _ => 0))), (q15, .inl (E.2.1.1, 32, .inl (fun _ => 0))), (q23, .inl (E.2.1.1, 32, .inl (upd (upd (fun _ => 0) (Int32.toNatClampNeg (1 : Int32)) (31 : Int32)) (Int32.toNatClampNeg (15 : Int32)) (98304 : Int32)))), (q31, .inl (E.2.1.2.1, 6, .inl (fun _ => 0))), (q39, .inl (E.2.1.1, 32, .inl (fun _ => 0))), (q47, .inl (E.2.1.1, 32, .inl (fun _ => 0))), (q55, .inl (E.2.1.2.1, 32, .inl (fun _ => 0))), (q63, .inl (E.2.1.1, 64, .inl (fun _ => 0))), (q71, .inl (E.2.1.1, 14, .inl (fun _ => 0)))]) rfl (by unfold vp_in; decide) d_MO_init_98 (fun H locs w => ?_)
  refine lv_aload_n hx hb d_MO_init_99 rfl (lv_at hl 0 rfl) ?_
  refine lv_iconst (v := -1) hx hb d_MO_init_100 (by decide) ?_
  refine rp (ty := (.int)) hc w i_MO ty_MO tyok_MO nm_MO 0 rfl rfl 18 (by decide) rfl (by decide +kernel) rfl rfl (Nat.le_of_ble_eq_true rfl) (ws' := [(h0, .inr (11, [.int 0, .ref q7, .ref q15, .int 0, .int 0, .int (-2147483648 : Int32), .int 0, .int 0, .int 0, .ref q23, .int 0, .ref q31, .ref q39, .ref q47, .ref q55, .ref q63, .int 0, .ref q71, .int (-1 : Int32), .int 0, .int 0, .int 0, .int 0, .int 0, .int 0])), (q7, .inl (E.2.1.1, 65536, .inl (fun _ => 0))), (q15, .inl (E.2.1.1, 32, .inl (fun _ => 0))), (q23, .inl (E.2.1.1, 32, .inl (upd (upd (fun _ => 0) (Int32.toNatClampNeg (1 : Int32)) (31 : Int32)) (Int32.toNatClampNeg (15 : Int32)) (98304 : Int32)))), (q31, .inl (E.2.1.2.1, 6, .inl (fun _ => 0))), (q39, .inl (E.2.1.1, 32, .inl (fun _ => 0))), (q47, .inl (E.2.1.1, 32, .inl (fun _ => 0))), (q55, .inl (E.2.1.2.1, 32, .inl (fun _ => 0))), (q63, .inl (E.2.1.1, 64, .inl (fun _ => 0))), (q71, .inl (E.2.1.1, 14, .inl (fun _ => 0)))]) rfl mw_904 d_MO_init_101 (fun H locs w => ?_)
  have w : Wd xCl E A s.heap H locs (mW E (ax h0 (fun k => match k with | 0 => q7 | 1 => q15 | 2 => q23 | 3 => q39 | 4 => q47 | 5 => q63 | 6 => q71 | 7 => q31 | 8 => q55 | _ => 0)) m0) := w.perm [0, 1, 2, 3, 5, 6, 8, 9, 4, 7] (by decide) rfl
  exact k_ret (w1 := fun na => mW E (ax h0 na) m0) hc (fun k => match k with | 0 => q7 | 1 => q15 | 2 => q23 | 3 => q39 | 4 => q47 | 5 => q63 | 6 => q71 | 7 => q31 | 8 => q55 | _ => 0) w (Nat.le_of_ble_eq_true rfl) (Nat.le_of_ble_eq_true rfl) d_MO_init_104
