-- CP_readEntry
def f_CP_readEntry_c1 (z54 : XS) (a1 : Int32)  : XS × Int32 := (z54, (-1 : Int32))
def f_CP_readEntry (σ : XS) (a1 : Int32) : XS × Int32 := f_CP_readEntry_c1 (f_SR_loadEntry σ ((f_TL_pageOf σ a1) ||| (f_TL_asidOf σ a1)) ((f_TL_halfOf σ a1 (0 : Int32)) ||| (f_TL_globalOf σ a1)) ((f_TL_halfOf σ a1 (1 : Int32)) ||| (f_TL_globalOf σ a1))) a1 
theorem d_CP_readEntry_0 : decode b_CP_readEntry 0 = .ok (.aload_n 0, 1) := by decide +kernel
theorem d_CP_readEntry_1 : decode b_CP_readEntry 1 = .ok (.getfield 17, 3) := by decide +kernel
theorem d_CP_readEntry_4 : decode b_CP_readEntry 4 = .ok (.iload_n 1, 1) := by decide +kernel
theorem d_CP_readEntry_5 : decode b_CP_readEntry 5 = .ok (.invokevirtual 84, 3) := by decide +kernel
theorem d_CP_readEntry_8 : decode b_CP_readEntry 8 = .ok (.istore_n 2, 1) := by decide +kernel
theorem d_CP_readEntry_9 : decode b_CP_readEntry 9 = .ok (.aload_n 0, 1) := by decide +kernel
theorem d_CP_readEntry_10 : decode b_CP_readEntry 10 = .ok (.getfield 17, 3) := by decide +kernel
theorem d_CP_readEntry_13 : decode b_CP_readEntry 13 = .ok (.iload_n 1, 1) := by decide +kernel
theorem d_CP_readEntry_14 : decode b_CP_readEntry 14 = .ok (.invokevirtual 89, 3) := by decide +kernel
theorem d_CP_readEntry_17 : decode b_CP_readEntry 17 = .ok (.aload_n 0, 1) := by decide +kernel
theorem d_CP_readEntry_18 : decode b_CP_readEntry 18 = .ok (.getfield 17, 3) := by decide +kernel
theorem d_CP_readEntry_21 : decode b_CP_readEntry 21 = .ok (.iload_n 1, 1) := by decide +kernel
theorem d_CP_readEntry_22 : decode b_CP_readEntry 22 = .ok (.invokevirtual 92, 3) := by decide +kernel
theorem d_CP_readEntry_25 : decode b_CP_readEntry 25 = .ok (.ior, 1) := by decide +kernel
theorem d_CP_readEntry_26 : decode b_CP_readEntry 26 = .ok (.istore_n 3, 1) := by decide +kernel
theorem d_CP_readEntry_27 : decode b_CP_readEntry 27 = .ok (.aload_n 0, 1) := by decide +kernel
theorem d_CP_readEntry_28 : decode b_CP_readEntry 28 = .ok (.getfield 13, 3) := by decide +kernel
theorem d_CP_readEntry_31 : decode b_CP_readEntry 31 = .ok (.iload_n 3, 1) := by decide +kernel
theorem d_CP_readEntry_32 : decode b_CP_readEntry 32 = .ok (.aload_n 0, 1) := by decide +kernel
theorem d_CP_readEntry_33 : decode b_CP_readEntry 33 = .ok (.getfield 17, 3) := by decide +kernel
theorem d_CP_readEntry_36 : decode b_CP_readEntry 36 = .ok (.iload_n 1, 1) := by decide +kernel
theorem d_CP_readEntry_37 : decode b_CP_readEntry 37 = .ok (.iconst 0, 1) := by decide +kernel
theorem d_CP_readEntry_38 : decode b_CP_readEntry 38 = .ok (.invokevirtual 95, 3) := by decide +kernel
theorem d_CP_readEntry_41 : decode b_CP_readEntry 41 = .ok (.iload_n 2, 1) := by decide +kernel
theorem d_CP_readEntry_42 : decode b_CP_readEntry 42 = .ok (.ior, 1) := by decide +kernel
theorem d_CP_readEntry_43 : decode b_CP_readEntry 43 = .ok (.aload_n 0, 1) := by decide +kernel
theorem d_CP_readEntry_44 : decode b_CP_readEntry 44 = .ok (.getfield 17, 3) := by decide +kernel
theorem d_CP_readEntry_47 : decode b_CP_readEntry 47 = .ok (.iload_n 1, 1) := by decide +kernel
theorem d_CP_readEntry_48 : decode b_CP_readEntry 48 = .ok (.iconst 1, 1) := by decide +kernel
theorem d_CP_readEntry_49 : decode b_CP_readEntry 49 = .ok (.invokevirtual 95, 3) := by decide +kernel
theorem d_CP_readEntry_52 : decode b_CP_readEntry 52 = .ok (.iload_n 2, 1) := by decide +kernel
theorem d_CP_readEntry_53 : decode b_CP_readEntry 53 = .ok (.ior, 1) := by decide +kernel
theorem d_CP_readEntry_54 : decode b_CP_readEntry 54 = .ok (.invokevirtual 98, 3) := by decide +kernel
theorem d_CP_readEntry_57 : decode b_CP_readEntry 57 = .ok (.iconst (-1), 1) := by decide +kernel
theorem d_CP_readEntry_58 : decode b_CP_readEntry 58 = .ok (.ireturn, 1) := by decide +kernel
set_option maxHeartbeats 4000000 in
set_option maxRecDepth 100000 in
theorem c_CP_readEntry (l : Launch) (E : Ev) (ad : Nat → Nat) (σ : XS) (a1 : Int32) : rC xCl l E (xW E ad) y_CP_readEntry b_CP_readEntry 4 (Option.some Jvm.ClassFile.FieldType.int) (rmo 1 23) [.ref (ad 10), .int a1] σ (zI (f_CP_readEntry σ a1)) := by
  refine rC.of (by decide) (Nat.le_of_ble_eq_true rfl) ?_
  intro p e s m below meth c A ls hc w hl
  generalize e0 : zI (f_CP_readEntry σ a1) = Z
  have hc : Cx xCl E A p s m ([.ref (ad 10), .int a1] : List Value).toArray meth c b_CP_readEntry 4 (Option.some Jvm.ClassFile.FieldType.int) "PageMachine$Coprocessor" := hc
  have hx := hc.1
  have hb := hc.2.1
  have ho := hc.2.2.2.2.2.1
  have hT := hc.2.2.2.2.2.2.1
  have hl : lv_has ls 4 [(0, .ref (ad 10)), (1, .int a1)] := hl
  refine lv_aload_n hx hb d_CP_readEntry_0 rfl (lv_at hl 0 rfl) ?_
  refine g_CP_tlb hc w mw_199 d_CP_readEntry_1 ?_
  refine lv_iload_n hx hb d_CP_readEntry_4 rfl (lv_at hl 1 rfl) ?_
  refine rVI (rest := []) hc w (c_TL_globalOf l E ad σ a1) kv_TL_globalOf mw_728 3 rfl rfl ⟨Nat.le_of_ble_eq_true rfl, Nat.le_of_ble_eq_true rfl⟩ hl.1 rfl (Nat.le_of_ble_eq_true rfl) ⟨Nat.zero_le _, Nat.zero_le _⟩ d_CP_readEntry_5 (fun H locs w => ?_)
  refine lv_istore_n (lv' := [(2, .int (f_TL_globalOf σ a1)), (0, .ref (ad 10)), (1, .int a1)]) hx hb d_CP_readEntry_8 rfl hl (by decide) rfl (fun ls hl => ?_)
  refine lv_aload_n hx hb d_CP_readEntry_9 rfl (lv_at hl 1 rfl) ?_
  refine g_CP_tlb hc w mw_199 d_CP_readEntry_10 ?_
  refine lv_iload_n hx hb d_CP_readEntry_13 rfl (lv_at hl 2 rfl) ?_
  refine rVI (rest := []) hc w (c_TL_pageOf l E ad σ a1) kv_TL_pageOf mw_732 3 rfl rfl ⟨Nat.le_of_ble_eq_true rfl, Nat.le_of_ble_eq_true rfl⟩ hl.1 rfl (Nat.le_of_ble_eq_true rfl) ⟨Nat.zero_le _, Nat.zero_le _⟩ d_CP_readEntry_14 (fun H locs w => ?_)
  refine lv_aload_n hx hb d_CP_readEntry_17 rfl (lv_at hl 1 rfl) ?_
  refine g_CP_tlb hc w mw_199 d_CP_readEntry_18 ?_
  refine lv_iload_n hx hb d_CP_readEntry_21 rfl (lv_at hl 2 rfl) ?_
  refine rVI (rest := [.int (f_TL_pageOf σ a1)]) hc w (c_TL_asidOf l E ad σ a1) kv_TL_asidOf mw_736 3 rfl rfl ⟨Nat.le_of_ble_eq_true rfl, Nat.le_of_ble_eq_true rfl⟩ hl.1 rfl (Nat.le_of_ble_eq_true rfl) ⟨Nat.zero_le _, Nat.zero_le _⟩ d_CP_readEntry_22 (fun H locs w => ?_)
  refine lv_ior hx hb d_CP_readEntry_25 ?_
  refine lv_istore_n (lv' := [(3, .int ((f_TL_pageOf σ a1) ||| (f_TL_asidOf σ a1))), (2, .int (f_TL_globalOf σ a1)), (0, .ref (ad 10)), (1, .int a1)]) hx hb d_CP_readEntry_26 rfl hl (by decide) rfl (fun ls hl => ?_)
  refine lv_aload_n hx hb d_CP_readEntry_27 rfl (lv_at hl 2 rfl) ?_
  refine g_CP_system hc w mw_198 d_CP_readEntry_28 ?_
  refine lv_iload_n hx hb d_CP_readEntry_31 rfl (lv_at hl 0 rfl) ?_
  refine lv_aload_n hx hb d_CP_readEntry_32 rfl (lv_at hl 2 rfl) ?_
  refine g_CP_tlb hc w mw_199 d_CP_readEntry_33 ?_
  refine lv_iload_n hx hb d_CP_readEntry_36 rfl (lv_at hl 3 rfl) ?_
  refine lv_iconst (v := 0) hx hb d_CP_readEntry_37 (by decide) ?_
  refine rVI (rest := [.int ((f_TL_pageOf σ a1) ||| (f_TL_asidOf σ a1)), .ref (ad 2)]) hc w (c_TL_halfOf l E ad σ a1 (0 : Int32)) kv_TL_halfOf mw_740 3 rfl rfl ⟨Nat.le_of_ble_eq_true rfl, Nat.le_of_ble_eq_true rfl⟩ hl.1 rfl (Nat.le_of_ble_eq_true rfl) ⟨Nat.zero_le _, Nat.zero_le _⟩ d_CP_readEntry_38 (fun H locs w => ?_)
  refine lv_iload_n hx hb d_CP_readEntry_41 rfl (lv_at hl 1 rfl) ?_
  refine lv_ior hx hb d_CP_readEntry_42 ?_
  refine lv_aload_n hx hb d_CP_readEntry_43 rfl (lv_at hl 2 rfl) ?_
  refine g_CP_tlb hc w mw_199 d_CP_readEntry_44 ?_
  refine lv_iload_n hx hb d_CP_readEntry_47 rfl (lv_at hl 3 rfl) ?_
  refine lv_iconst (v := 1) hx hb d_CP_readEntry_48 (by decide) ?_
  refine rVI (rest := [.int ((f_TL_halfOf σ a1 (0 : Int32)) ||| (f_TL_globalOf σ a1)), .int ((f_TL_pageOf σ a1) ||| (f_TL_asidOf σ a1)), .ref (ad 2)]) hc w (c_TL_halfOf l E ad σ a1 (1 : Int32)) kv_TL_halfOf mw_740 3 rfl rfl ⟨Nat.le_of_ble_eq_true rfl, Nat.le_of_ble_eq_true rfl⟩ hl.1 rfl (Nat.le_of_ble_eq_true rfl) ⟨Nat.zero_le _, Nat.zero_le _⟩ d_CP_readEntry_49 (fun H locs w => ?_)
  refine lv_iload_n hx hb d_CP_readEntry_52 rfl (lv_at hl 1 rfl) ?_
  refine lv_ior hx hb d_CP_readEntry_53 ?_
  refine cVV (rest := []) hc w (c_SR_loadEntry l E ad σ ((f_TL_pageOf σ a1) ||| (f_TL_asidOf σ a1)) ((f_TL_halfOf σ a1 (0 : Int32)) ||| (f_TL_globalOf σ a1)) ((f_TL_halfOf σ a1 (1 : Int32)) ||| (f_TL_globalOf σ a1))) kv_SR_loadEntry mw_741 2 rfl rfl ⟨Nat.le_of_ble_eq_true rfl, Nat.le_of_ble_eq_true rfl⟩ hl.1 rfl (Nat.le_of_ble_eq_true rfl) ⟨Nat.zero_le _, Nat.zero_le _⟩ d_CP_readEntry_54 (fun z54 H locs hs54 w => ?_)
  have e_c1 : zI (f_CP_readEntry_c1 z54 a1 ) = Z := by rw [← e0, f_CP_readEntry, hs54]
  refine lv_iconst (v := -1) hx hb d_CP_readEntry_57 (by decide) ?_
  exact rt_i hc w d_CP_readEntry_58 (by rw [← e_c1, f_CP_readEntry_c1] <;> rfl)
-- CP_writeEntry
def f_CP_writeEntry_c1 (z34 : XS) (a1 : Int32)  : XS × Int32 := (z34, (-1 : Int32))
def f_CP_writeEntry (σ : XS) (a1 : Int32) : XS × Int32 := f_CP_writeEntry_c1 (f_TL_fill σ a1 (f_SR_read σ (10 : Int32)) (f_SR_read σ (2 : Int32)) (f_SR_read σ (3 : Int32))) a1 
theorem d_CP_writeEntry_0 : decode b_CP_writeEntry 0 = .ok (.aload_n 0, 1) := by decide +kernel
theorem d_CP_writeEntry_1 : decode b_CP_writeEntry 1 = .ok (.getfield 13, 3) := by decide +kernel
theorem d_CP_writeEntry_4 : decode b_CP_writeEntry 4 = .ok (.iconst 2, 1) := by decide +kernel
theorem d_CP_writeEntry_5 : decode b_CP_writeEntry 5 = .ok (.invokevirtual 54, 3) := by decide +kernel
theorem d_CP_writeEntry_8 : decode b_CP_writeEntry 8 = .ok (.istore_n 2, 1) := by decide +kernel
theorem d_CP_writeEntry_9 : decode b_CP_writeEntry 9 = .ok (.aload_n 0, 1) := by decide +kernel
theorem d_CP_writeEntry_10 : decode b_CP_writeEntry 10 = .ok (.getfield 13, 3) := by decide +kernel
theorem d_CP_writeEntry_13 : decode b_CP_writeEntry 13 = .ok (.iconst 3, 1) := by decide +kernel
theorem d_CP_writeEntry_14 : decode b_CP_writeEntry 14 = .ok (.invokevirtual 54, 3) := by decide +kernel
theorem d_CP_writeEntry_17 : decode b_CP_writeEntry 17 = .ok (.istore_n 3, 1) := by decide +kernel
theorem d_CP_writeEntry_18 : decode b_CP_writeEntry 18 = .ok (.aload_n 0, 1) := by decide +kernel
theorem d_CP_writeEntry_19 : decode b_CP_writeEntry 19 = .ok (.getfield 17, 3) := by decide +kernel
theorem d_CP_writeEntry_22 : decode b_CP_writeEntry 22 = .ok (.iload_n 1, 1) := by decide +kernel
theorem d_CP_writeEntry_23 : decode b_CP_writeEntry 23 = .ok (.aload_n 0, 1) := by decide +kernel
theorem d_CP_writeEntry_24 : decode b_CP_writeEntry 24 = .ok (.getfield 13, 3) := by decide +kernel
theorem d_CP_writeEntry_27 : decode b_CP_writeEntry 27 = .ok (.bipush 10, 2) := by decide +kernel
theorem d_CP_writeEntry_29 : decode b_CP_writeEntry 29 = .ok (.invokevirtual 54, 3) := by decide +kernel
theorem d_CP_writeEntry_32 : decode b_CP_writeEntry 32 = .ok (.iload_n 2, 1) := by decide +kernel
theorem d_CP_writeEntry_33 : decode b_CP_writeEntry 33 = .ok (.iload_n 3, 1) := by decide +kernel
theorem d_CP_writeEntry_34 : decode b_CP_writeEntry 34 = .ok (.invokevirtual 102, 3) := by decide +kernel
theorem d_CP_writeEntry_37 : decode b_CP_writeEntry 37 = .ok (.iconst (-1), 1) := by decide +kernel
theorem d_CP_writeEntry_38 : decode b_CP_writeEntry 38 = .ok (.ireturn, 1) := by decide +kernel
set_option maxHeartbeats 4000000 in
set_option maxRecDepth 100000 in
theorem c_CP_writeEntry (l : Launch) (E : Ev) (ad : Nat → Nat) (σ : XS) (a1 : Int32) : rC xCl l E (xW E ad) y_CP_writeEntry b_CP_writeEntry 4 (Option.some Jvm.ClassFile.FieldType.int) (rmo 1 25) [.ref (ad 10), .int a1] σ (zI (f_CP_writeEntry σ a1)) := by
  refine rC.of (by decide) (Nat.le_of_ble_eq_true rfl) ?_
  intro p e s m below meth c A ls hc w hl
  generalize e0 : zI (f_CP_writeEntry σ a1) = Z
  have hc : Cx xCl E A p s m ([.ref (ad 10), .int a1] : List Value).toArray meth c b_CP_writeEntry 4 (Option.some Jvm.ClassFile.FieldType.int) "PageMachine$Coprocessor" := hc
  have hx := hc.1
  have hb := hc.2.1
  have ho := hc.2.2.2.2.2.1
  have hT := hc.2.2.2.2.2.2.1
  have hl : lv_has ls 4 [(0, .ref (ad 10)), (1, .int a1)] := hl
  refine lv_aload_n hx hb d_CP_writeEntry_0 rfl (lv_at hl 0 rfl) ?_
  refine g_CP_system hc w mw_198 d_CP_writeEntry_1 ?_
  refine lv_iconst (v := 2) hx hb d_CP_writeEntry_4 (by decide) ?_
  refine rVI (rest := []) hc w (c_SR_read l E ad σ (2 : Int32)) kv_SR_read mw_723 2 rfl rfl ⟨Nat.le_of_ble_eq_true rfl, Nat.le_of_ble_eq_true rfl⟩ hl.1 rfl (Nat.le_of_ble_eq_true rfl) ⟨Nat.zero_le _, Nat.zero_le _⟩ d_CP_writeEntry_5 (fun H locs w => ?_)
  refine lv_istore_n (lv' := [(2, .int (f_SR_read σ (2 : Int32))), (0, .ref (ad 10)), (1, .int a1)]) hx hb d_CP_writeEntry_8 rfl hl (by decide) rfl (fun ls hl => ?_)
  refine lv_aload_n hx hb d_CP_writeEntry_9 rfl (lv_at hl 1 rfl) ?_
  refine g_CP_system hc w mw_198 d_CP_writeEntry_10 ?_
  refine lv_iconst (v := 3) hx hb d_CP_writeEntry_13 (by decide) ?_
  refine rVI (rest := []) hc w (c_SR_read l E ad σ (3 : Int32)) kv_SR_read mw_723 2 rfl rfl ⟨Nat.le_of_ble_eq_true rfl, Nat.le_of_ble_eq_true rfl⟩ hl.1 rfl (Nat.le_of_ble_eq_true rfl) ⟨Nat.zero_le _, Nat.zero_le _⟩ d_CP_writeEntry_14 (fun H locs w => ?_)
  refine lv_istore_n (lv' := [(3, .int (f_SR_read σ (3 : Int32))), (2, .int (f_SR_read σ (2 : Int32))), (0, .ref (ad 10)), (1, .int a1)]) hx hb d_CP_writeEntry_17 rfl hl (by decide) rfl (fun ls hl => ?_)
  refine lv_aload_n hx hb d_CP_writeEntry_18 rfl (lv_at hl 2 rfl) ?_
  refine g_CP_tlb hc w mw_199 d_CP_writeEntry_19 ?_
  refine lv_iload_n hx hb d_CP_writeEntry_22 rfl (lv_at hl 3 rfl) ?_
  refine lv_aload_n hx hb d_CP_writeEntry_23 rfl (lv_at hl 2 rfl) ?_
  refine g_CP_system hc w mw_198 d_CP_writeEntry_24 ?_
  refine lv_bipush (v := 10) hx hb d_CP_writeEntry_27 (by decide) ?_
  refine rVI (rest := [.int a1, .ref (ad 3)]) hc w (c_SR_read l E ad σ (10 : Int32)) kv_SR_read mw_723 2 rfl rfl ⟨Nat.le_of_ble_eq_true rfl, Nat.le_of_ble_eq_true rfl⟩ hl.1 rfl (Nat.le_of_ble_eq_true rfl) ⟨Nat.zero_le _, Nat.zero_le _⟩ d_CP_writeEntry_29 (fun H locs w => ?_)
  refine lv_iload_n hx hb d_CP_writeEntry_32 rfl (lv_at hl 1 rfl) ?_
  refine lv_iload_n hx hb d_CP_writeEntry_33 rfl (lv_at hl 0 rfl) ?_
  refine cVV (rest := []) hc w (c_TL_fill l E ad σ a1 (f_SR_read σ (10 : Int32)) (f_SR_read σ (2 : Int32)) (f_SR_read σ (3 : Int32))) kv_TL_fill mw_749 3 rfl rfl ⟨Nat.le_of_ble_eq_true rfl, Nat.le_of_ble_eq_true rfl⟩ hl.1 rfl (Nat.le_of_ble_eq_true rfl) ⟨Nat.zero_le _, Nat.zero_le _⟩ d_CP_writeEntry_34 (fun z34 H locs hs34 w => ?_)
  have e_c1 : zI (f_CP_writeEntry_c1 z34 a1 ) = Z := by rw [← e0, f_CP_writeEntry, hs34]
  refine lv_iconst (v := -1) hx hb d_CP_writeEntry_37 (by decide) ?_
  exact rt_i hc w d_CP_writeEntry_38 (by rw [← e_c1, f_CP_writeEntry_c1] <;> rfl)
-- CP_probe
def f_CP_probe_c1 (z23 : XS)   : XS × Int32 := (z23, (-1 : Int32))
def f_CP_probe (σ : XS) : XS × Int32 := f_CP_probe_c1 (f_SR_noteProbe σ (f_TL_match σ (f_SR_read σ (10 : Int32)) (f_SR_read σ (10 : Int32))))  
theorem d_CP_probe_0 : decode b_CP_probe 0 = .ok (.aload_n 0, 1) := by decide +kernel
theorem d_CP_probe_1 : decode b_CP_probe 1 = .ok (.getfield 13, 3) := by decide +kernel
theorem d_CP_probe_4 : decode b_CP_probe 4 = .ok (.bipush 10, 2) := by decide +kernel
theorem d_CP_probe_6 : decode b_CP_probe 6 = .ok (.invokevirtual 54, 3) := by decide +kernel
theorem d_CP_probe_9 : decode b_CP_probe 9 = .ok (.istore_n 1, 1) := by decide +kernel
theorem d_CP_probe_10 : decode b_CP_probe 10 = .ok (.aload_n 0, 1) := by decide +kernel
theorem d_CP_probe_11 : decode b_CP_probe 11 = .ok (.getfield 13, 3) := by decide +kernel
theorem d_CP_probe_14 : decode b_CP_probe 14 = .ok (.aload_n 0, 1) := by decide +kernel
theorem d_CP_probe_15 : decode b_CP_probe 15 = .ok (.getfield 17, 3) := by decide +kernel
theorem d_CP_probe_18 : decode b_CP_probe 18 = .ok (.iload_n 1, 1) := by decide +kernel
theorem d_CP_probe_19 : decode b_CP_probe 19 = .ok (.iload_n 1, 1) := by decide +kernel
theorem d_CP_probe_20 : decode b_CP_probe 20 = .ok (.invokevirtual 106, 3) := by decide +kernel
theorem d_CP_probe_23 : decode b_CP_probe 23 = .ok (.invokevirtual 109, 3) := by decide +kernel
theorem d_CP_probe_26 : decode b_CP_probe 26 = .ok (.iconst (-1), 1) := by decide +kernel
theorem d_CP_probe_27 : decode b_CP_probe 27 = .ok (.ireturn, 1) := by decide +kernel
set_option maxHeartbeats 4000000 in
set_option maxRecDepth 100000 in
theorem c_CP_probe (l : Launch) (E : Ev) (ad : Nat → Nat) (σ : XS) : rC xCl l E (xW E ad) y_CP_probe b_CP_probe 2 (Option.some Jvm.ClassFile.FieldType.int) (rmo 1 25) [.ref (ad 10)] σ (zI (f_CP_probe σ)) := by
  refine rC.of (by decide) (Nat.le_of_ble_eq_true rfl) ?_
  intro p e s m below meth c A ls hc w hl
  generalize e0 : zI (f_CP_probe σ) = Z
  have hc : Cx xCl E A p s m ([.ref (ad 10)] : List Value).toArray meth c b_CP_probe 2 (Option.some Jvm.ClassFile.FieldType.int) "PageMachine$Coprocessor" := hc
  have hx := hc.1
  have hb := hc.2.1
  have ho := hc.2.2.2.2.2.1
  have hT := hc.2.2.2.2.2.2.1
  have hl : lv_has ls 2 [(0, .ref (ad 10))] := hl
  refine lv_aload_n hx hb d_CP_probe_0 rfl (lv_at hl 0 rfl) ?_
  refine g_CP_system hc w mw_198 d_CP_probe_1 ?_
  refine lv_bipush (v := 10) hx hb d_CP_probe_4 (by decide) ?_
  refine rVI (rest := []) hc w (c_SR_read l E ad σ (10 : Int32)) kv_SR_read mw_723 2 rfl rfl ⟨Nat.le_of_ble_eq_true rfl, Nat.le_of_ble_eq_true rfl⟩ hl.1 rfl (Nat.le_of_ble_eq_true rfl) ⟨Nat.zero_le _, Nat.zero_le _⟩ d_CP_probe_6 (fun H locs w => ?_)
  refine lv_istore_n (lv' := [(1, .int (f_SR_read σ (10 : Int32))), (0, .ref (ad 10))]) hx hb d_CP_probe_9 rfl hl (by decide) rfl (fun ls hl => ?_)
  refine lv_aload_n hx hb d_CP_probe_10 rfl (lv_at hl 1 rfl) ?_
  refine g_CP_system hc w mw_198 d_CP_probe_11 ?_
  refine lv_aload_n hx hb d_CP_probe_14 rfl (lv_at hl 1 rfl) ?_
  refine g_CP_tlb hc w mw_199 d_CP_probe_15 ?_
  refine lv_iload_n hx hb d_CP_probe_18 rfl (lv_at hl 0 rfl) ?_
  refine lv_iload_n hx hb d_CP_probe_19 rfl (lv_at hl 0 rfl) ?_
  refine rVI (rest := [.ref (ad 2)]) hc w (c_TL_match l E ad σ (f_SR_read σ (10 : Int32)) (f_SR_read σ (10 : Int32))) kv_TL_match mw_758 3 rfl rfl ⟨Nat.le_of_ble_eq_true rfl, Nat.le_of_ble_eq_true rfl⟩ hl.1 rfl (Nat.le_of_ble_eq_true rfl) ⟨Nat.zero_le _, Nat.zero_le _⟩ d_CP_probe_20 (fun H locs w => ?_)
  refine cVV (rest := []) hc w (c_SR_noteProbe l E ad σ (f_TL_match σ (f_SR_read σ (10 : Int32)) (f_SR_read σ (10 : Int32)))) kv_SR_noteProbe mw_759 2 rfl rfl ⟨Nat.le_of_ble_eq_true rfl, Nat.le_of_ble_eq_true rfl⟩ hl.1 rfl (Nat.le_of_ble_eq_true rfl) ⟨Nat.zero_le _, Nat.zero_le _⟩ d_CP_probe_23 (fun z23 H locs hs23 w => ?_)
  have e_c1 : zI (f_CP_probe_c1 z23  ) = Z := by rw [← e0, f_CP_probe, hs23]
  refine lv_iconst (v := -1) hx hb d_CP_probe_26 (by decide) ?_
  exact rt_i hc w d_CP_probe_27 (by rw [← e_c1, f_CP_probe_c1] <;> rfl)
-- CP_leaveFault
def f_CP_leaveFault_c3 (σ19 : XS)   : XS × Int32 := (σ19, (-1 : Int32))
def f_CP_leaveFault_c2 (z11 : XS)   : XS × Int32 := f_CP_leaveFault_c3 (xs_link z11 (0 : Int32))  
def f_CP_leaveFault_c1 (z8 : XS × Int32)   : XS × Int32 := f_CP_leaveFault_c2 (f_CO_goAtOnceTo z8.1 z8.2)  
def f_CP_leaveFault (σ : XS) : XS × Int32 := f_CP_leaveFault_c1 (f_SR_leaveFault σ)  
theorem d_CP_leaveFault_0 : decode b_CP_leaveFault 0 = .ok (.aload_n 0, 1) := by decide +kernel
theorem d_CP_leaveFault_1 : decode b_CP_leaveFault 1 = .ok (.getfield 7, 3) := by decide +kernel
theorem d_CP_leaveFault_4 : decode b_CP_leaveFault 4 = .ok (.aload_n 0, 1) := by decide +kernel
theorem d_CP_leaveFault_5 : decode b_CP_leaveFault 5 = .ok (.getfield 13, 3) := by decide +kernel
theorem d_CP_leaveFault_8 : decode b_CP_leaveFault 8 = .ok (.invokevirtual 113, 3) := by decide +kernel
theorem d_CP_leaveFault_11 : decode b_CP_leaveFault 11 = .ok (.invokevirtual 114, 3) := by decide +kernel
theorem d_CP_leaveFault_14 : decode b_CP_leaveFault 14 = .ok (.aload_n 0, 1) := by decide +kernel
theorem d_CP_leaveFault_15 : decode b_CP_leaveFault 15 = .ok (.getfield 7, 3) := by decide +kernel
theorem d_CP_leaveFault_18 : decode b_CP_leaveFault 18 = .ok (.iconst 0, 1) := by decide +kernel
theorem d_CP_leaveFault_19 : decode b_CP_leaveFault 19 = .ok (.putfield 117, 3) := by decide +kernel
theorem d_CP_leaveFault_22 : decode b_CP_leaveFault 22 = .ok (.iconst (-1), 1) := by decide +kernel
theorem d_CP_leaveFault_23 : decode b_CP_leaveFault 23 = .ok (.ireturn, 1) := by decide +kernel
set_option maxHeartbeats 4000000 in
set_option maxRecDepth 100000 in
theorem c_CP_leaveFault (l : Launch) (E : Ev) (ad : Nat → Nat) (σ : XS) : rC xCl l E (xW E ad) y_CP_leaveFault b_CP_leaveFault 1 (Option.some Jvm.ClassFile.FieldType.int) (rmo 1 21) [.ref (ad 10)] σ (zI (f_CP_leaveFault σ)) := by
  refine rC.of (by decide) (Nat.le_of_ble_eq_true rfl) ?_
  intro p e s m below meth c A ls hc w hl
  generalize e0 : zI (f_CP_leaveFault σ) = Z
  have hc : Cx xCl E A p s m ([.ref (ad 10)] : List Value).toArray meth c b_CP_leaveFault 1 (Option.some Jvm.ClassFile.FieldType.int) "PageMachine$Coprocessor" := hc
  have hx := hc.1
  have hb := hc.2.1
  have ho := hc.2.2.2.2.2.1
  have hT := hc.2.2.2.2.2.2.1
  have hl : lv_has ls 1 [(0, .ref (ad 10))] := hl
  refine lv_aload_n hx hb d_CP_leaveFault_0 rfl (lv_at hl 0 rfl) ?_
  refine g_CP_core hc w mw_197 d_CP_leaveFault_1 ?_
  refine lv_aload_n hx hb d_CP_leaveFault_4 rfl (lv_at hl 0 rfl) ?_
  refine g_CP_system hc w mw_198 d_CP_leaveFault_5 ?_
  refine cVI (rest := [.ref (ad 5)]) hc w (c_SR_leaveFault l E ad σ) kv_SR_leaveFault mw_767 2 rfl rfl ⟨Nat.le_of_ble_eq_true rfl, Nat.le_of_ble_eq_true rfl⟩ hl.1 rfl (Nat.le_of_ble_eq_true rfl) ⟨Nat.zero_le _, Nat.zero_le _⟩ d_CP_leaveFault_8 (fun z8 H locs hs8 w => ?_)
  have e_c1 : zI (f_CP_leaveFault_c1 z8  ) = Z := by rw [← e0, f_CP_leaveFault, hs8]
  refine cVV (rest := []) hc w (c_CO_goAtOnceTo l E ad z8.1 z8.2) kv_CO_goAtOnceTo mw_771 5 rfl rfl ⟨Nat.le_of_ble_eq_true rfl, Nat.le_of_ble_eq_true rfl⟩ hl.1 rfl (Nat.le_of_ble_eq_true rfl) ⟨Nat.zero_le _, Nat.zero_le _⟩ d_CP_leaveFault_11 (fun z11 H locs hs11 w => ?_)
  have e_c2 : zI (f_CP_leaveFault_c2 z11  ) = Z := by rw [← e_c1, f_CP_leaveFault_c1, hs11]
  refine lv_aload_n hx hb d_CP_leaveFault_14 rfl (lv_at hl 0 rfl) ?_
  refine g_CP_core hc w mw_197 d_CP_leaveFault_15 ?_
  refine lv_iconst (v := 0) hx hb d_CP_leaveFault_18 (by decide) ?_
  refine p_CO_link hc w mw_116 d_CP_leaveFault_19 (fun σ19 H locs hs19 w => ?_)
  have e_c3 : zI (f_CP_leaveFault_c3 σ19  ) = Z := by rw [← e_c2, f_CP_leaveFault_c2, hs19]
  refine lv_iconst (v := -1) hx hb d_CP_leaveFault_22 (by decide) ?_
  exact rt_i hc w d_CP_leaveFault_23 (by rw [← e_c3, f_CP_leaveFault_c3] <;> rfl)
-- CP_command
def f_CP_command_c5 (z120 : XS × Int32) (a1 : Int32)  : XS × Int32 := (z120.1, z120.2)
def f_CP_command_c4 (z100 : XS × Int32) (a1 : Int32)  : XS × Int32 := (z100.1, z100.2)
def f_CP_command_c3 (z95 : XS × Int32) (a1 : Int32)  : XS × Int32 := (z95.1, z95.2)
def f_CP_command_c2 (z82 : XS × Int32) (a1 : Int32)  : XS × Int32 := (z82.1, z82.2)
def f_CP_command_c1 (z69 : XS × Int32) (a1 : Int32)  : XS × Int32 := (z69.1, z69.2)
def f_CP_command (σ : XS) (a1 : Int32) : XS × Int32 := if a1 = (1 : Int32) then (f_CP_command_c1 (f_CP_readEntry σ (f_SR_read σ (0 : Int32))) a1 ) else (if a1 = (2 : Int32) then (f_CP_command_c2 (f_CP_writeEntry σ (f_SR_read σ (0 : Int32))) a1 ) else (if a1 = (6 : Int32) then (f_CP_command_c3 (f_CP_writeEntry σ (f_SR_read σ (1 : Int32))) a1 ) else (if a1 = (8 : Int32) then (f_CP_command_c4 (f_CP_probe σ) a1 ) else (if a1 = (24 : Int32) then (if (zb (x_inds σ)) = 0 then (f_CP_command_c5 (f_CP_leaveFault σ) a1 ) else ((σ, (10 : Int32)))) else (if a1 = (32 : Int32) then (if (zb (x_inds σ)) = 0 then ((σ, (-1 : Int32))) else ((σ, (10 : Int32)))) else ((σ, (10 : Int32))))))))
theorem d_CP_command_0 : decode b_CP_command 0 = .ok (.iload_n 1, 1) := by decide +kernel
theorem d_CP_command_1 : decode b_CP_command 1 = .ok (.lookupswitch 140 #[(1, 59), (2, 72), (6, 85), (8, 98), (24, 103), (32, 123)], 59) := by decide +kernel
theorem d_CP_command_60 : decode b_CP_command 60 = .ok (.aload_n 0, 1) := by decide +kernel
theorem d_CP_command_61 : decode b_CP_command 61 = .ok (.aload_n 0, 1) := by decide +kernel
theorem d_CP_command_62 : decode b_CP_command 62 = .ok (.getfield 13, 3) := by decide +kernel
theorem d_CP_command_65 : decode b_CP_command 65 = .ok (.iconst 0, 1) := by decide +kernel
theorem d_CP_command_66 : decode b_CP_command 66 = .ok (.invokevirtual 54, 3) := by decide +kernel
theorem d_CP_command_69 : decode b_CP_command 69 = .ok (.invokevirtual 68, 3) := by decide +kernel
theorem d_CP_command_72 : decode b_CP_command 72 = .ok (.ireturn, 1) := by decide +kernel
theorem d_CP_command_73 : decode b_CP_command 73 = .ok (.aload_n 0, 1) := by decide +kernel
theorem d_CP_command_74 : decode b_CP_command 74 = .ok (.aload_n 0, 1) := by decide +kernel
theorem d_CP_command_75 : decode b_CP_command 75 = .ok (.getfield 13, 3) := by decide +kernel
theorem d_CP_command_78 : decode b_CP_command 78 = .ok (.iconst 0, 1) := by decide +kernel
theorem d_CP_command_79 : decode b_CP_command 79 = .ok (.invokevirtual 54, 3) := by decide +kernel
theorem d_CP_command_82 : decode b_CP_command 82 = .ok (.invokevirtual 71, 3) := by decide +kernel
theorem d_CP_command_85 : decode b_CP_command 85 = .ok (.ireturn, 1) := by decide +kernel
theorem d_CP_command_86 : decode b_CP_command 86 = .ok (.aload_n 0, 1) := by decide +kernel
theorem d_CP_command_87 : decode b_CP_command 87 = .ok (.aload_n 0, 1) := by decide +kernel
theorem d_CP_command_88 : decode b_CP_command 88 = .ok (.getfield 13, 3) := by decide +kernel
theorem d_CP_command_91 : decode b_CP_command 91 = .ok (.iconst 1, 1) := by decide +kernel
theorem d_CP_command_92 : decode b_CP_command 92 = .ok (.invokevirtual 54, 3) := by decide +kernel
theorem d_CP_command_95 : decode b_CP_command 95 = .ok (.invokevirtual 71, 3) := by decide +kernel
theorem d_CP_command_98 : decode b_CP_command 98 = .ok (.ireturn, 1) := by decide +kernel
theorem d_CP_command_99 : decode b_CP_command 99 = .ok (.aload_n 0, 1) := by decide +kernel
theorem d_CP_command_100 : decode b_CP_command 100 = .ok (.invokevirtual 74, 3) := by decide +kernel
theorem d_CP_command_103 : decode b_CP_command 103 = .ok (.ireturn, 1) := by decide +kernel
theorem d_CP_command_104 : decode b_CP_command 104 = .ok (.aload_n 0, 1) := by decide +kernel
theorem d_CP_command_105 : decode b_CP_command 105 = .ok (.getfield 7, 3) := by decide +kernel
theorem d_CP_command_108 : decode b_CP_command 108 = .ok (.getfield 77, 3) := by decide +kernel
theorem d_CP_command_111 : decode b_CP_command 111 = .ok (.ifCond .eq 8, 3) := by decide +kernel
theorem d_CP_command_114 : decode b_CP_command 114 = .ok (.bipush 10, 2) := by decide +kernel
theorem d_CP_command_116 : decode b_CP_command 116 = .ok (.goto 7, 3) := by decide +kernel
theorem d_CP_command_119 : decode b_CP_command 119 = .ok (.aload_n 0, 1) := by decide +kernel
theorem d_CP_command_120 : decode b_CP_command 120 = .ok (.invokevirtual 81, 3) := by decide +kernel
theorem d_CP_command_123 : decode b_CP_command 123 = .ok (.ireturn, 1) := by decide +kernel
theorem d_CP_command_124 : decode b_CP_command 124 = .ok (.aload_n 0, 1) := by decide +kernel
theorem d_CP_command_125 : decode b_CP_command 125 = .ok (.getfield 7, 3) := by decide +kernel
theorem d_CP_command_128 : decode b_CP_command 128 = .ok (.getfield 77, 3) := by decide +kernel
theorem d_CP_command_131 : decode b_CP_command 131 = .ok (.ifCond .eq 8, 3) := by decide +kernel
theorem d_CP_command_134 : decode b_CP_command 134 = .ok (.bipush 10, 2) := by decide +kernel
theorem d_CP_command_136 : decode b_CP_command 136 = .ok (.goto 4, 3) := by decide +kernel
theorem d_CP_command_139 : decode b_CP_command 139 = .ok (.iconst (-1), 1) := by decide +kernel
theorem d_CP_command_140 : decode b_CP_command 140 = .ok (.ireturn, 1) := by decide +kernel
theorem d_CP_command_141 : decode b_CP_command 141 = .ok (.bipush 10, 2) := by decide +kernel
theorem d_CP_command_143 : decode b_CP_command 143 = .ok (.ireturn, 1) := by decide +kernel
set_option maxHeartbeats 4000000 in
set_option maxRecDepth 100000 in
theorem c_CP_command (l : Launch) (E : Ev) (ad : Nat → Nat) (σ : XS) (a1 : Int32) : rC xCl l E (xW E ad) y_CP_command b_CP_command 2 (Option.some Jvm.ClassFile.FieldType.int) (rmo 2 48) [.ref (ad 10), .int a1] σ (zI (f_CP_command σ a1)) := by
  refine rC.of (by decide) (Nat.le_of_ble_eq_true rfl) ?_
  intro p e s m below meth c A ls hc w hl
  generalize e0 : zI (f_CP_command σ a1) = Z
  have hc : Cx xCl E A p s m ([.ref (ad 10), .int a1] : List Value).toArray meth c b_CP_command 2 (Option.some Jvm.ClassFile.FieldType.int) "PageMachine$Coprocessor" := hc
  have hx := hc.1
  have hb := hc.2.1
  have ho := hc.2.2.2.2.2.1
  have hT := hc.2.2.2.2.2.2.1
  have hl : lv_has ls 2 [(0, .ref (ad 10)), (1, .int a1)] := hl
  refine lv_iload_n hx hb d_CP_command_0 rfl (lv_at hl 1 rfl) ?_
  by_cases q1_0 : a1 = (1 : Int32)
  · refine lv_lookup (tgt := 60) (off := 59) hx hb d_CP_command_1 (by decide) (by rw [q1_0]; decide) (by decide) ?_
    refine lv_aload_n hx hb d_CP_command_60 rfl (lv_at hl 0 rfl) ?_
    refine lv_aload_n hx hb d_CP_command_61 rfl (lv_at hl 0 rfl) ?_
    refine g_CP_system hc w mw_198 d_CP_command_62 ?_
    refine lv_iconst (v := 0) hx hb d_CP_command_65 (by decide) ?_
    refine rVI (rest := [.ref (ad 10)]) hc w (c_SR_read l E ad σ (0 : Int32)) kv_SR_read mw_723 2 rfl rfl ⟨Nat.le_of_ble_eq_true rfl, Nat.le_of_ble_eq_true rfl⟩ hl.1 rfl (Nat.le_of_ble_eq_true rfl) ⟨Nat.zero_le _, Nat.zero_le _⟩ d_CP_command_66 (fun H locs w => ?_)
    refine cVI (rest := []) hc w (c_CP_readEntry l E ad σ (f_SR_read σ (0 : Int32))) kv_CP_readEntry mw_724 10 rfl rfl ⟨Nat.le_of_ble_eq_true rfl, Nat.le_of_ble_eq_true rfl⟩ hl.1 rfl (Nat.le_of_ble_eq_true rfl) ⟨Nat.zero_le _, Nat.zero_le _⟩ d_CP_command_69 (fun z69 H locs hs69 w => ?_)
    have e_c1 : zI (f_CP_command_c1 z69 a1 ) = Z := by rw [← e0, f_CP_command, if_pos q1_0, hs69]
    exact rt_i hc w d_CP_command_72 (by rw [← e_c1, f_CP_command_c1] <;> rfl)
  · by_cases q1_1 : a1 = (2 : Int32)
    · refine lv_lookup (tgt := 73) (off := 72) hx hb d_CP_command_1 (by decide) (by rw [q1_1]; decide) (by decide) ?_
      refine lv_aload_n hx hb d_CP_command_73 rfl (lv_at hl 0 rfl) ?_
      refine lv_aload_n hx hb d_CP_command_74 rfl (lv_at hl 0 rfl) ?_
      refine g_CP_system hc w mw_198 d_CP_command_75 ?_
      refine lv_iconst (v := 0) hx hb d_CP_command_78 (by decide) ?_
      refine rVI (rest := [.ref (ad 10)]) hc w (c_SR_read l E ad σ (0 : Int32)) kv_SR_read mw_723 2 rfl rfl ⟨Nat.le_of_ble_eq_true rfl, Nat.le_of_ble_eq_true rfl⟩ hl.1 rfl (Nat.le_of_ble_eq_true rfl) ⟨Nat.zero_le _, Nat.zero_le _⟩ d_CP_command_79 (fun H locs w => ?_)
      refine cVI (rest := []) hc w (c_CP_writeEntry l E ad σ (f_SR_read σ (0 : Int32))) kv_CP_writeEntry mw_745 10 rfl rfl ⟨Nat.le_of_ble_eq_true rfl, Nat.le_of_ble_eq_true rfl⟩ hl.1 rfl (Nat.le_of_ble_eq_true rfl) ⟨Nat.zero_le _, Nat.zero_le _⟩ d_CP_command_82 (fun z82 H locs hs82 w => ?_)
      have e_c2 : zI (f_CP_command_c2 z82 a1 ) = Z := by rw [← e0, f_CP_command, if_neg q1_0, if_pos q1_1, hs82]
      exact rt_i hc w d_CP_command_85 (by rw [← e_c2, f_CP_command_c2] <;> rfl)
    · by_cases q1_2 : a1 = (6 : Int32)
      · refine lv_lookup (tgt := 86) (off := 85) hx hb d_CP_command_1 (by decide) (by rw [q1_2]; decide) (by decide) ?_
        refine lv_aload_n hx hb d_CP_command_86 rfl (lv_at hl 0 rfl) ?_
        refine lv_aload_n hx hb d_CP_command_87 rfl (lv_at hl 0 rfl) ?_
        refine g_CP_system hc w mw_198 d_CP_command_88 ?_
        refine lv_iconst (v := 1) hx hb d_CP_command_91 (by decide) ?_
        refine rVI (rest := [.ref (ad 10)]) hc w (c_SR_read l E ad σ (1 : Int32)) kv_SR_read mw_723 2 rfl rfl ⟨Nat.le_of_ble_eq_true rfl, Nat.le_of_ble_eq_true rfl⟩ hl.1 rfl (Nat.le_of_ble_eq_true rfl) ⟨Nat.zero_le _, Nat.zero_le _⟩ d_CP_command_92 (fun H locs w => ?_)
        refine cVI (rest := []) hc w (c_CP_writeEntry l E ad σ (f_SR_read σ (1 : Int32))) kv_CP_writeEntry mw_745 10 rfl rfl ⟨Nat.le_of_ble_eq_true rfl, Nat.le_of_ble_eq_true rfl⟩ hl.1 rfl (Nat.le_of_ble_eq_true rfl) ⟨Nat.zero_le _, Nat.zero_le _⟩ d_CP_command_95 (fun z95 H locs hs95 w => ?_)
        have e_c3 : zI (f_CP_command_c3 z95 a1 ) = Z := by rw [← e0, f_CP_command, if_neg q1_0, if_neg q1_1, if_pos q1_2, hs95]
        exact rt_i hc w d_CP_command_98 (by rw [← e_c3, f_CP_command_c3] <;> rfl)
      · by_cases q1_3 : a1 = (8 : Int32)
        · refine lv_lookup (tgt := 99) (off := 98) hx hb d_CP_command_1 (by decide) (by rw [q1_3]; decide) (by decide) ?_
          refine lv_aload_n hx hb d_CP_command_99 rfl (lv_at hl 0 rfl) ?_
          refine cVI (rest := []) hc w (c_CP_probe l E ad σ) kv_CP_probe mw_754 10 rfl rfl ⟨Nat.le_of_ble_eq_true rfl, Nat.le_of_ble_eq_true rfl⟩ hl.1 rfl (Nat.le_of_ble_eq_true rfl) ⟨Nat.zero_le _, Nat.zero_le _⟩ d_CP_command_100 (fun z100 H locs hs100 w => ?_)
          have e_c4 : zI (f_CP_command_c4 z100 a1 ) = Z := by rw [← e0, f_CP_command, if_neg q1_0, if_neg q1_1, if_neg q1_2, if_pos q1_3, hs100]
          exact rt_i hc w d_CP_command_103 (by rw [← e_c4, f_CP_command_c4] <;> rfl)
        · by_cases q1_4 : a1 = (24 : Int32)
          · refine lv_lookup (tgt := 104) (off := 103) hx hb d_CP_command_1 (by decide) (by rw [q1_4]; decide) (by decide) ?_
            refine lv_aload_n hx hb d_CP_command_104 rfl (lv_at hl 0 rfl) ?_
            refine g_CP_core hc w mw_197 d_CP_command_105 ?_
            refine g_CO_inDelaySlot hc w mw_119 d_CP_command_108 ?_
            refine lv_if_eq (tgt := 119) hx hb d_CP_command_111 (by decide) (fun q111 => ?_) (fun q111 => ?_)
            · refine lv_aload_n hx hb d_CP_command_119 rfl (lv_at hl 0 rfl) ?_
              refine cVI (rest := []) hc w (c_CP_leaveFault l E ad σ) kv_CP_leaveFault mw_763 10 rfl rfl ⟨Nat.le_of_ble_eq_true rfl, Nat.le_of_ble_eq_true rfl⟩ hl.1 rfl (Nat.le_of_ble_eq_true rfl) ⟨Nat.zero_le _, Nat.zero_le _⟩ d_CP_command_120 (fun z120 H locs hs120 w => ?_)
              have e_c5 : zI (f_CP_command_c5 z120 a1 ) = Z := by rw [← e0, f_CP_command, if_neg q1_0, if_neg q1_1, if_neg q1_2, if_neg q1_3, if_pos q1_4, if_pos q111, hs120]
              exact rt_i hc w d_CP_command_123 (by rw [← e_c5, f_CP_command_c5] <;> rfl)
            · refine lv_bipush (v := 10) hx hb d_CP_command_114 (by decide) ?_
              refine lv_goto (tgt := 123) hx hb d_CP_command_116 (by decide) ?_
              exact rt_i hc w d_CP_command_123 (by rw [← e0, f_CP_command, if_neg q1_0, if_neg q1_1, if_neg q1_2, if_neg q1_3, if_pos q1_4, if_neg q111] <;> rfl)
          · by_cases q1_5 : a1 = (32 : Int32)
            · refine lv_lookup (tgt := 124) (off := 123) hx hb d_CP_command_1 (by decide) (by rw [q1_5]; decide) (by decide) ?_
              refine lv_aload_n hx hb d_CP_command_124 rfl (lv_at hl 0 rfl) ?_
              refine g_CP_core hc w mw_197 d_CP_command_125 ?_
              refine g_CO_inDelaySlot hc w mw_119 d_CP_command_128 ?_
              refine lv_if_eq (tgt := 139) hx hb d_CP_command_131 (by decide) (fun q131 => ?_) (fun q131 => ?_)
              · refine lv_iconst (v := -1) hx hb d_CP_command_139 (by decide) ?_
                exact rt_i hc w d_CP_command_140 (by rw [← e0, f_CP_command, if_neg q1_0, if_neg q1_1, if_neg q1_2, if_neg q1_3, if_neg q1_4, if_pos q1_5, if_pos q131] <;> rfl)
              · refine lv_bipush (v := 10) hx hb d_CP_command_134 (by decide) ?_
                refine lv_goto (tgt := 140) hx hb d_CP_command_136 (by decide) ?_
                exact rt_i hc w d_CP_command_140 (by rw [← e0, f_CP_command, if_neg q1_0, if_neg q1_1, if_neg q1_2, if_neg q1_3, if_neg q1_4, if_pos q1_5, if_neg q131] <;> rfl)
            · refine lv_lookup (tgt := 141) (off := 140) hx hb d_CP_command_1 (by decide) (by have k0 := ne_k q1_0 (n := 1) (by decide); have k1 := ne_k q1_1 (n := 2) (by decide); have k2 := ne_k q1_2 (n := 6) (by decide); have k3 := ne_k q1_3 (n := 8) (by decide); have k4 := ne_k q1_4 (n := 24) (by decide); have k5 := ne_k q1_5 (n := 32) (by decide); simp [Op.lookupswitch.offset, k0, Ne.symm k0, k1, Ne.symm k1, k2, Ne.symm k2, k3, Ne.symm k3, k4, Ne.symm k4, k5, Ne.symm k5]) (by decide) ?_
              refine lv_bipush (v := 10) hx hb d_CP_command_141 (by decide) ?_
              exact rt_i hc w d_CP_command_143 (by rw [← e0, f_CP_command, if_neg q1_0, if_neg q1_1, if_neg q1_2, if_neg q1_3, if_neg q1_4, if_neg q1_5] <;> rfl)
-- CP_perform
def f_CP_perform_c3 (z51 : XS × Int32)   : XS × Int32 := (z51.1, z51.2)
def f_CP_perform_c2 (z131 : XS)   : XS × Int32 := (z131, (-1 : Int32))
def f_CP_perform_c1 (z109 : XS × Int32)   : XS × Int32 := (z109.1, z109.2)
def f_CP_perform (σ : XS) : XS × Int32 := if (zb (f_SR_mayUseSystem σ)) = 0 then ((σ, f_FA_noCoprocessor σ (0 : Int32))) else (if (f_CO_op σ) = (47 : Int32) then ((σ, (-1 : Int32))) else (if (f_CO_rs σ) < (16 : Int32) then (if (f_CO_rs σ) = (0 : Int32) then (f_CP_perform_c1 (f_CO_put σ (f_CO_rt σ) (f_SR_read σ (f_CO_rd σ)))  ) else (if (f_CO_rs σ) = (4 : Int32) then (f_CP_perform_c2 (f_SR_write σ (f_CO_rd σ) (f_CO_t σ))  ) else ((σ, (10 : Int32))))) else (f_CP_perform_c3 (f_CP_command σ (f_CO_fn σ))  )))
theorem d_CP_perform_0 : decode b_CP_perform 0 = .ok (.aload_n 0, 1) := by decide +kernel
theorem d_CP_perform_1 : decode b_CP_perform 1 = .ok (.getfield 13, 3) := by decide +kernel
theorem d_CP_perform_4 : decode b_CP_perform 4 = .ok (.invokevirtual 21, 3) := by decide +kernel
theorem d_CP_perform_7 : decode b_CP_perform 7 = .ok (.ifCond .ne 8, 3) := by decide +kernel
theorem d_CP_perform_10 : decode b_CP_perform 10 = .ok (.iconst 0, 1) := by decide +kernel
theorem d_CP_perform_11 : decode b_CP_perform 11 = .ok (.invokestatic 27, 3) := by decide +kernel
theorem d_CP_perform_14 : decode b_CP_perform 14 = .ok (.ireturn, 1) := by decide +kernel
theorem d_CP_perform_15 : decode b_CP_perform 15 = .ok (.aload_n 0, 1) := by decide +kernel
theorem d_CP_perform_16 : decode b_CP_perform 16 = .ok (.getfield 7, 3) := by decide +kernel
theorem d_CP_perform_19 : decode b_CP_perform 19 = .ok (.invokevirtual 33, 3) := by decide +kernel
theorem d_CP_perform_22 : decode b_CP_perform 22 = .ok (.bipush 47, 2) := by decide +kernel
theorem d_CP_perform_24 : decode b_CP_perform 24 = .ok (.if_icmp .ne 5, 3) := by decide +kernel
theorem d_CP_perform_27 : decode b_CP_perform 27 = .ok (.iconst (-1), 1) := by decide +kernel
theorem d_CP_perform_28 : decode b_CP_perform 28 = .ok (.ireturn, 1) := by decide +kernel
theorem d_CP_perform_29 : decode b_CP_perform 29 = .ok (.aload_n 0, 1) := by decide +kernel
theorem d_CP_perform_30 : decode b_CP_perform 30 = .ok (.getfield 7, 3) := by decide +kernel
theorem d_CP_perform_33 : decode b_CP_perform 33 = .ok (.invokevirtual 39, 3) := by decide +kernel
theorem d_CP_perform_36 : decode b_CP_perform 36 = .ok (.istore_n 1, 1) := by decide +kernel
theorem d_CP_perform_37 : decode b_CP_perform 37 = .ok (.iload_n 1, 1) := by decide +kernel
theorem d_CP_perform_38 : decode b_CP_perform 38 = .ok (.bipush 16, 2) := by decide +kernel
theorem d_CP_perform_40 : decode b_CP_perform 40 = .ok (.if_icmp .lt 15, 3) := by decide +kernel
theorem d_CP_perform_43 : decode b_CP_perform 43 = .ok (.aload_n 0, 1) := by decide +kernel
theorem d_CP_perform_44 : decode b_CP_perform 44 = .ok (.aload_n 0, 1) := by decide +kernel
theorem d_CP_perform_45 : decode b_CP_perform 45 = .ok (.getfield 7, 3) := by decide +kernel
theorem d_CP_perform_48 : decode b_CP_perform 48 = .ok (.invokevirtual 42, 3) := by decide +kernel
theorem d_CP_perform_51 : decode b_CP_perform 51 = .ok (.invokevirtual 45, 3) := by decide +kernel
theorem d_CP_perform_54 : decode b_CP_perform 54 = .ok (.ireturn, 1) := by decide +kernel
theorem d_CP_perform_55 : decode b_CP_perform 55 = .ok (.iload_n 1, 1) := by decide +kernel
theorem d_CP_perform_56 : decode b_CP_perform 56 = .ok (.lookupswitch 80 #[(0, 28), (4, 57)], 28) := by decide +kernel
theorem d_CP_perform_84 : decode b_CP_perform 84 = .ok (.aload_n 0, 1) := by decide +kernel
theorem d_CP_perform_85 : decode b_CP_perform 85 = .ok (.getfield 7, 3) := by decide +kernel
theorem d_CP_perform_88 : decode b_CP_perform 88 = .ok (.aload_n 0, 1) := by decide +kernel
theorem d_CP_perform_89 : decode b_CP_perform 89 = .ok (.getfield 7, 3) := by decide +kernel
theorem d_CP_perform_92 : decode b_CP_perform 92 = .ok (.invokevirtual 48, 3) := by decide +kernel
theorem d_CP_perform_95 : decode b_CP_perform 95 = .ok (.aload_n 0, 1) := by decide +kernel
theorem d_CP_perform_96 : decode b_CP_perform 96 = .ok (.getfield 13, 3) := by decide +kernel
theorem d_CP_perform_99 : decode b_CP_perform 99 = .ok (.aload_n 0, 1) := by decide +kernel
theorem d_CP_perform_100 : decode b_CP_perform 100 = .ok (.getfield 7, 3) := by decide +kernel
theorem d_CP_perform_103 : decode b_CP_perform 103 = .ok (.invokevirtual 51, 3) := by decide +kernel
theorem d_CP_perform_106 : decode b_CP_perform 106 = .ok (.invokevirtual 54, 3) := by decide +kernel
theorem d_CP_perform_109 : decode b_CP_perform 109 = .ok (.invokevirtual 57, 3) := by decide +kernel
theorem d_CP_perform_112 : decode b_CP_perform 112 = .ok (.ireturn, 1) := by decide +kernel
theorem d_CP_perform_113 : decode b_CP_perform 113 = .ok (.aload_n 0, 1) := by decide +kernel
theorem d_CP_perform_114 : decode b_CP_perform 114 = .ok (.getfield 13, 3) := by decide +kernel
theorem d_CP_perform_117 : decode b_CP_perform 117 = .ok (.aload_n 0, 1) := by decide +kernel
theorem d_CP_perform_118 : decode b_CP_perform 118 = .ok (.getfield 7, 3) := by decide +kernel
theorem d_CP_perform_121 : decode b_CP_perform 121 = .ok (.invokevirtual 51, 3) := by decide +kernel
theorem d_CP_perform_124 : decode b_CP_perform 124 = .ok (.aload_n 0, 1) := by decide +kernel
theorem d_CP_perform_125 : decode b_CP_perform 125 = .ok (.getfield 7, 3) := by decide +kernel
theorem d_CP_perform_128 : decode b_CP_perform 128 = .ok (.invokevirtual 61, 3) := by decide +kernel
theorem d_CP_perform_131 : decode b_CP_perform 131 = .ok (.invokevirtual 64, 3) := by decide +kernel
theorem d_CP_perform_134 : decode b_CP_perform 134 = .ok (.iconst (-1), 1) := by decide +kernel
theorem d_CP_perform_135 : decode b_CP_perform 135 = .ok (.ireturn, 1) := by decide +kernel
theorem d_CP_perform_136 : decode b_CP_perform 136 = .ok (.bipush 10, 2) := by decide +kernel
theorem d_CP_perform_138 : decode b_CP_perform 138 = .ok (.ireturn, 1) := by decide +kernel
set_option maxHeartbeats 4000000 in
set_option maxRecDepth 100000 in
theorem c_CP_perform (l : Launch) (E : Ev) (ad : Nat → Nat) (σ : XS) : rC xCl l E (xW E ad) y_CP_perform b_CP_perform 2 (Option.some Jvm.ClassFile.FieldType.int) (rmo 3 69) [.ref (ad 10)] σ (zI (f_CP_perform σ)) := by
  refine rC.of (by decide) (Nat.le_of_ble_eq_true rfl) ?_
  intro p e s m below meth c A ls hc w hl
  generalize e0 : zI (f_CP_perform σ) = Z
  have hc : Cx xCl E A p s m ([.ref (ad 10)] : List Value).toArray meth c b_CP_perform 2 (Option.some Jvm.ClassFile.FieldType.int) "PageMachine$Coprocessor" := hc
  have hx := hc.1
  have hb := hc.2.1
  have ho := hc.2.2.2.2.2.1
  have hT := hc.2.2.2.2.2.2.1
  have hl : lv_has ls 2 [(0, .ref (ad 10))] := hl
  refine lv_aload_n hx hb d_CP_perform_0 rfl (lv_at hl 0 rfl) ?_
  refine g_CP_system hc w mw_198 d_CP_perform_1 ?_
  refine rVZ (rest := []) hc w (c_SR_mayUseSystem l E ad σ) kv_SR_mayUseSystem mw_704 2 rfl rfl ⟨Nat.le_of_ble_eq_true rfl, Nat.le_of_ble_eq_true rfl⟩ hl.1 rfl (Nat.le_of_ble_eq_true rfl) ⟨Nat.zero_le _, Nat.zero_le _⟩ d_CP_perform_4 (fun H locs w => ?_)
  refine lv_if_ne (tgt := 15) hx hb d_CP_perform_7 (by decide) (fun q7 => ?_) (fun q7 => ?_)
  · refine lv_aload_n hx hb d_CP_perform_15 rfl (lv_at hl 0 rfl) ?_
    refine g_CP_core hc w mw_197 d_CP_perform_16 ?_
    refine rVI (rest := []) hc w (c_CO_op l E ad σ) kv_CO_op mw_713 5 rfl rfl ⟨Nat.le_of_ble_eq_true rfl, Nat.le_of_ble_eq_true rfl⟩ hl.1 rfl (Nat.le_of_ble_eq_true rfl) ⟨Nat.zero_le _, Nat.zero_le _⟩ d_CP_perform_19 (fun H locs w => ?_)
    refine lv_bipush (v := 47) hx hb d_CP_perform_22 (by decide) ?_
    refine lv_icmp_ne (tgt := 29) hx hb d_CP_perform_24 (by decide) (fun q24 => ?_) (fun q24 => ?_)
    · refine lv_aload_n hx hb d_CP_perform_29 rfl (lv_at hl 0 rfl) ?_
      refine g_CP_core hc w mw_197 d_CP_perform_30 ?_
      refine rVI (rest := []) hc w (c_CO_rs l E ad σ) kv_CO_rs mw_714 5 rfl rfl ⟨Nat.le_of_ble_eq_true rfl, Nat.le_of_ble_eq_true rfl⟩ hl.1 rfl (Nat.le_of_ble_eq_true rfl) ⟨Nat.zero_le _, Nat.zero_le _⟩ d_CP_perform_33 (fun H locs w => ?_)
      refine lv_istore_n (lv' := [(1, .int (f_CO_rs σ)), (0, .ref (ad 10))]) hx hb d_CP_perform_36 rfl hl (by decide) rfl (fun ls hl => ?_)
      refine lv_iload_n hx hb d_CP_perform_37 rfl (lv_at hl 0 rfl) ?_
      refine lv_bipush (v := 16) hx hb d_CP_perform_38 (by decide) ?_
      refine lv_icmp_lt (tgt := 55) hx hb d_CP_perform_40 (by decide) (fun q40 => ?_) (fun q40 => ?_)
      · refine lv_iload_n hx hb d_CP_perform_55 rfl (lv_at hl 0 rfl) ?_
        by_cases q56_0 : (f_CO_rs σ) = (0 : Int32)
        · refine lv_lookup (tgt := 84) (off := 28) hx hb d_CP_perform_56 (by decide) (by rw [q56_0]; decide) (by decide) ?_
          refine lv_aload_n hx hb d_CP_perform_84 rfl (lv_at hl 1 rfl) ?_
          refine g_CP_core hc w mw_197 d_CP_perform_85 ?_
          refine lv_aload_n hx hb d_CP_perform_88 rfl (lv_at hl 1 rfl) ?_
          refine g_CP_core hc w mw_197 d_CP_perform_89 ?_
          refine rVI (rest := [.ref (ad 5)]) hc w (c_CO_rt l E ad σ) kv_CO_rt mw_772 5 rfl rfl ⟨Nat.le_of_ble_eq_true rfl, Nat.le_of_ble_eq_true rfl⟩ hl.1 rfl (Nat.le_of_ble_eq_true rfl) ⟨Nat.zero_le _, Nat.zero_le _⟩ d_CP_perform_92 (fun H locs w => ?_)
          refine lv_aload_n hx hb d_CP_perform_95 rfl (lv_at hl 1 rfl) ?_
          refine g_CP_system hc w mw_198 d_CP_perform_96 ?_
          refine lv_aload_n hx hb d_CP_perform_99 rfl (lv_at hl 1 rfl) ?_
          refine g_CP_core hc w mw_197 d_CP_perform_100 ?_
          refine rVI (rest := [.ref (ad 2), .int (f_CO_rt σ), .ref (ad 5)]) hc w (c_CO_rd l E ad σ) kv_CO_rd mw_773 5 rfl rfl ⟨Nat.le_of_ble_eq_true rfl, Nat.le_of_ble_eq_true rfl⟩ hl.1 rfl (Nat.le_of_ble_eq_true rfl) ⟨Nat.zero_le _, Nat.zero_le _⟩ d_CP_perform_103 (fun H locs w => ?_)
          refine rVI (rest := [.int (f_CO_rt σ), .ref (ad 5)]) hc w (c_SR_read l E ad σ (f_CO_rd σ)) kv_SR_read mw_723 2 rfl rfl ⟨Nat.le_of_ble_eq_true rfl, Nat.le_of_ble_eq_true rfl⟩ hl.1 rfl (Nat.le_of_ble_eq_true rfl) ⟨Nat.zero_le _, Nat.zero_le _⟩ d_CP_perform_106 (fun H locs w => ?_)
          refine cVI (rest := []) hc w (c_CO_put l E ad σ (f_CO_rt σ) (f_SR_read σ (f_CO_rd σ))) kv_CO_put mw_774 5 rfl rfl ⟨Nat.le_of_ble_eq_true rfl, Nat.le_of_ble_eq_true rfl⟩ hl.1 rfl (Nat.le_of_ble_eq_true rfl) ⟨Nat.zero_le _, Nat.zero_le _⟩ d_CP_perform_109 (fun z109 H locs hs109 w => ?_)
          have e_c1 : zI (f_CP_perform_c1 z109  ) = Z := by rw [← e0, f_CP_perform, if_neg q7, if_neg q24, if_pos q40, if_pos q56_0, hs109]
          exact rt_i hc w d_CP_perform_112 (by rw [← e_c1, f_CP_perform_c1] <;> rfl)
        · by_cases q56_1 : (f_CO_rs σ) = (4 : Int32)
          · refine lv_lookup (tgt := 113) (off := 57) hx hb d_CP_perform_56 (by decide) (by rw [q56_1]; decide) (by decide) ?_
            refine lv_aload_n hx hb d_CP_perform_113 rfl (lv_at hl 1 rfl) ?_
            refine g_CP_system hc w mw_198 d_CP_perform_114 ?_
            refine lv_aload_n hx hb d_CP_perform_117 rfl (lv_at hl 1 rfl) ?_
            refine g_CP_core hc w mw_197 d_CP_perform_118 ?_
            refine rVI (rest := [.ref (ad 2)]) hc w (c_CO_rd l E ad σ) kv_CO_rd mw_773 5 rfl rfl ⟨Nat.le_of_ble_eq_true rfl, Nat.le_of_ble_eq_true rfl⟩ hl.1 rfl (Nat.le_of_ble_eq_true rfl) ⟨Nat.zero_le _, Nat.zero_le _⟩ d_CP_perform_121 (fun H locs w => ?_)
            refine lv_aload_n hx hb d_CP_perform_124 rfl (lv_at hl 1 rfl) ?_
            refine g_CP_core hc w mw_197 d_CP_perform_125 ?_
            refine rVI (rest := [.int (f_CO_rd σ), .ref (ad 2)]) hc w (c_CO_t l E ad σ) kv_CO_t mw_775 5 rfl rfl ⟨Nat.le_of_ble_eq_true rfl, Nat.le_of_ble_eq_true rfl⟩ hl.1 rfl (Nat.le_of_ble_eq_true rfl) ⟨Nat.zero_le _, Nat.zero_le _⟩ d_CP_perform_128 (fun H locs w => ?_)
            refine cVV (rest := []) hc w (c_SR_write l E ad σ (f_CO_rd σ) (f_CO_t σ)) kv_SR_write mw_776 2 rfl rfl ⟨Nat.le_of_ble_eq_true rfl, Nat.le_of_ble_eq_true rfl⟩ hl.1 rfl (Nat.le_of_ble_eq_true rfl) ⟨Nat.zero_le _, Nat.zero_le _⟩ d_CP_perform_131 (fun z131 H locs hs131 w => ?_)
            have e_c2 : zI (f_CP_perform_c2 z131  ) = Z := by rw [← e0, f_CP_perform, if_neg q7, if_neg q24, if_pos q40, if_neg q56_0, if_pos q56_1, hs131]
            refine lv_iconst (v := -1) hx hb d_CP_perform_134 (by decide) ?_
            exact rt_i hc w d_CP_perform_135 (by rw [← e_c2, f_CP_perform_c2] <;> rfl)
          · refine lv_lookup (tgt := 136) (off := 80) hx hb d_CP_perform_56 (by decide) (by have k0 := ne_k q56_0 (n := 0) (by decide); have k1 := ne_k q56_1 (n := 4) (by decide); simp [Op.lookupswitch.offset, k0, Ne.symm k0, k1, Ne.symm k1]) (by decide) ?_
            refine lv_bipush (v := 10) hx hb d_CP_perform_136 (by decide) ?_
            exact rt_i hc w d_CP_perform_138 (by rw [← e0, f_CP_perform, if_neg q7, if_neg q24, if_pos q40, if_neg q56_0, if_neg q56_1] <;> rfl)
      · refine lv_aload_n hx hb d_CP_perform_43 rfl (lv_at hl 1 rfl) ?_
        refine lv_aload_n hx hb d_CP_perform_44 rfl (lv_at hl 1 rfl) ?_
        refine g_CP_core hc w mw_197 d_CP_perform_45 ?_
        refine rVI (rest := [.ref (ad 10)]) hc w (c_CO_fn l E ad σ) kv_CO_fn mw_718 5 rfl rfl ⟨Nat.le_of_ble_eq_true rfl, Nat.le_of_ble_eq_true rfl⟩ hl.1 rfl (Nat.le_of_ble_eq_true rfl) ⟨Nat.zero_le _, Nat.zero_le _⟩ d_CP_perform_48 (fun H locs w => ?_)
        refine cVI (rest := []) hc w (c_CP_command l E ad σ (f_CO_fn σ)) kv_CP_command mw_719 10 rfl rfl ⟨Nat.le_of_ble_eq_true rfl, Nat.le_of_ble_eq_true rfl⟩ hl.1 rfl (Nat.le_of_ble_eq_true rfl) ⟨Nat.zero_le _, Nat.zero_le _⟩ d_CP_perform_51 (fun z51 H locs hs51 w => ?_)
        have e_c3 : zI (f_CP_perform_c3 z51  ) = Z := by rw [← e0, f_CP_perform, if_neg q7, if_neg q24, if_neg q40, hs51]
        exact rt_i hc w d_CP_perform_54 (by rw [← e_c3, f_CP_perform_c3] <;> rfl)
    · refine lv_iconst (v := -1) hx hb d_CP_perform_27 (by decide) ?_
      exact rt_i hc w d_CP_perform_28 (by rw [← e0, f_CP_perform, if_neg q7, if_pos q24] <;> rfl)
  · refine lv_iconst (v := 0) hx hb d_CP_perform_10 (by decide) ?_
    refine rSI (rest := []) hc w (c_FA_noCoprocessor l E ad σ (0 : Int32)) ks_FA_noCoprocessor mw_710 ⟨Nat.le_of_ble_eq_true rfl, Nat.le_of_ble_eq_true rfl⟩ hl.1 rfl (Nat.le_of_ble_eq_true rfl) ⟨Nat.zero_le _, Nat.zero_le _⟩ d_CP_perform_11 (fun H locs w => ?_)
    exact rt_i hc w d_CP_perform_14 (by rw [← e0, f_CP_perform, if_pos q7] <;> rfl)
