-- LS_address
def f_LS_address (σ : XS) : Int32 := (f_CO_s σ) + (f_CO_signedImmediate σ)
theorem d_LS_address_0 : decode b_LS_address 0 = .ok (.aload_n 0, 1) := by decide +kernel
theorem d_LS_address_1 : decode b_LS_address 1 = .ok (.getfield 7, 3) := by decide +kernel
theorem d_LS_address_4 : decode b_LS_address 4 = .ok (.invokevirtual 79, 3) := by decide +kernel
theorem d_LS_address_7 : decode b_LS_address 7 = .ok (.aload_n 0, 1) := by decide +kernel
theorem d_LS_address_8 : decode b_LS_address 8 = .ok (.getfield 7, 3) := by decide +kernel
theorem d_LS_address_11 : decode b_LS_address 11 = .ok (.invokevirtual 82, 3) := by decide +kernel
theorem d_LS_address_14 : decode b_LS_address 14 = .ok (.iadd, 1) := by decide +kernel
theorem d_LS_address_15 : decode b_LS_address 15 = .ok (.ireturn, 1) := by decide +kernel
set_option maxHeartbeats 4000000 in
set_option maxRecDepth 100000 in
theorem c_LS_address (l : Launch) (E : Ev) (ad : Nat → Nat) (σ : XS) : rC xCl l E (xW E ad) y_LS_address b_LS_address 1 (Option.some Jvm.ClassFile.FieldType.int) (rmo 1 20) [.ref (ad 9)] σ ((σ, some (Value.int (f_LS_address σ)))) := by
  refine rC.of (by decide) (Nat.le_of_ble_eq_true rfl) ?_
  intro p e s m below meth c A ls hc w hl
  generalize e0 : (σ, some (Value.int (f_LS_address σ))) = Z
  have hc : Cx xCl E A p s m ([.ref (ad 9)] : List Value).toArray meth c b_LS_address 1 (Option.some Jvm.ClassFile.FieldType.int) "PageMachine$LoadsAndStores" := hc
  have hx := hc.1
  have hb := hc.2.1
  have ho := hc.2.2.2.2.2.1
  have hT := hc.2.2.2.2.2.2.1
  have hl : lv_has ls 1 [(0, .ref (ad 9))] := hl
  refine lv_aload_n hx hb d_LS_address_0 rfl (lv_at hl 0 rfl) ?_
  refine g_LS_core hc w mw_181 d_LS_address_1 ?_
  refine rVI (rest := []) hc w (c_CO_s l E ad σ) kv_CO_s mw_799 5 rfl rfl ⟨Nat.le_of_ble_eq_true rfl, Nat.le_of_ble_eq_true rfl⟩ hl.1 rfl (Nat.le_of_ble_eq_true rfl) ⟨Nat.zero_le _, Nat.zero_le _⟩ d_LS_address_4 (fun H locs w => ?_)
  refine lv_aload_n hx hb d_LS_address_7 rfl (lv_at hl 0 rfl) ?_
  refine g_LS_core hc w mw_181 d_LS_address_8 ?_
  refine rVI (rest := [.int (f_CO_s σ)]) hc w (c_CO_signedImmediate l E ad σ) kv_CO_signedImmediate mw_800 5 rfl rfl ⟨Nat.le_of_ble_eq_true rfl, Nat.le_of_ble_eq_true rfl⟩ hl.1 rfl (Nat.le_of_ble_eq_true rfl) ⟨Nat.zero_le _, Nat.zero_le _⟩ d_LS_address_11 (fun H locs w => ?_)
  refine lv_iadd hx hb d_LS_address_14 ?_
  exact rt_i hc w d_LS_address_15 (by rw [← e0, f_LS_address] <;> rfl)
-- LS_alignmentOf
def f_LS_alignmentOf (σ : XS) (a1 : Int32) : Int32 := if a1 = (32 : Int32) then ((0 : Int32)) else (if a1 = (33 : Int32) then ((1 : Int32)) else (if a1 = (34 : Int32) then ((0 : Int32)) else (if a1 = (35 : Int32) then ((3 : Int32)) else (if a1 = (36 : Int32) then ((0 : Int32)) else (if a1 = (37 : Int32) then ((1 : Int32)) else (if a1 = (38 : Int32) then ((0 : Int32)) else (if a1 = (39 : Int32) then ((3 : Int32)) else (if a1 = (40 : Int32) then ((0 : Int32)) else (if a1 = (41 : Int32) then ((1 : Int32)) else (if a1 = (42 : Int32) then ((0 : Int32)) else (if a1 = (43 : Int32) then ((3 : Int32)) else (if a1 = (44 : Int32) then ((3 : Int32)) else (if a1 = (45 : Int32) then ((3 : Int32)) else (if a1 = (46 : Int32) then ((0 : Int32)) else ((3 : Int32))))))))))))))))
theorem d_LS_alignmentOf_0 : decode b_LS_alignmentOf 0 = .ok (.iload_n 0, 1) := by decide +kernel
theorem d_LS_alignmentOf_1 : decode b_LS_alignmentOf 1 = .ok (.tableswitch 79 32 46 #[77, 75, 77, 79, 77, 75, 77, 79, 77, 75, 77, 79, 79, 79, 77], 75) := by decide +kernel
theorem d_LS_alignmentOf_76 : decode b_LS_alignmentOf 76 = .ok (.iconst 1, 1) := by decide +kernel
theorem d_LS_alignmentOf_77 : decode b_LS_alignmentOf 77 = .ok (.ireturn, 1) := by decide +kernel
theorem d_LS_alignmentOf_78 : decode b_LS_alignmentOf 78 = .ok (.iconst 0, 1) := by decide +kernel
theorem d_LS_alignmentOf_79 : decode b_LS_alignmentOf 79 = .ok (.ireturn, 1) := by decide +kernel
theorem d_LS_alignmentOf_80 : decode b_LS_alignmentOf 80 = .ok (.iconst 3, 1) := by decide +kernel
theorem d_LS_alignmentOf_81 : decode b_LS_alignmentOf 81 = .ok (.ireturn, 1) := by decide +kernel
set_option maxHeartbeats 4000000 in
set_option maxRecDepth 100000 in
theorem c_LS_alignmentOf (l : Launch) (E : Ev) (ad : Nat → Nat) (σ : XS) (a1 : Int32) : rC xCl l E (xW E ad) y_LS_alignmentOf b_LS_alignmentOf 1 (Option.some Jvm.ClassFile.FieldType.int) (rmo 0 0) [.int a1] σ ((σ, some (Value.int (f_LS_alignmentOf σ a1)))) := by
  refine rC.of (by decide) (Nat.le_of_ble_eq_true rfl) ?_
  intro p e s m below meth c A ls hc w hl
  generalize e0 : (σ, some (Value.int (f_LS_alignmentOf σ a1))) = Z
  have hc : Cx xCl E A p s m ([.int a1] : List Value).toArray meth c b_LS_alignmentOf 1 (Option.some Jvm.ClassFile.FieldType.int) "PageMachine$LoadsAndStores" := hc
  have hx := hc.1
  have hb := hc.2.1
  have ho := hc.2.2.2.2.2.1
  have hT := hc.2.2.2.2.2.2.1
  have hl : lv_has ls 1 [(0, .int a1)] := hl
  refine lv_iload_n hx hb d_LS_alignmentOf_0 rfl (lv_at hl 0 rfl) ?_
  by_cases q1_0 : a1 = (32 : Int32)
  · refine lv_tableIn (tgt := 78) (off := 77) hx hb d_LS_alignmentOf_1 (by rw [q1_0]; decide) (by rw [q1_0]; decide) (by rw [q1_0]; rfl) (by decide) ?_
    refine lv_iconst (v := 0) hx hb d_LS_alignmentOf_78 (by decide) ?_
    exact rt_i hc w d_LS_alignmentOf_79 (by rw [← e0, f_LS_alignmentOf, if_pos q1_0] <;> rfl)
  · by_cases q1_1 : a1 = (33 : Int32)
    · refine lv_tableIn (tgt := 76) (off := 75) hx hb d_LS_alignmentOf_1 (by rw [q1_1]; decide) (by rw [q1_1]; decide) (by rw [q1_1]; rfl) (by decide) ?_
      refine lv_iconst (v := 1) hx hb d_LS_alignmentOf_76 (by decide) ?_
      exact rt_i hc w d_LS_alignmentOf_77 (by rw [← e0, f_LS_alignmentOf, if_neg q1_0, if_pos q1_1] <;> rfl)
    · by_cases q1_2 : a1 = (34 : Int32)
      · refine lv_tableIn (tgt := 78) (off := 77) hx hb d_LS_alignmentOf_1 (by rw [q1_2]; decide) (by rw [q1_2]; decide) (by rw [q1_2]; rfl) (by decide) ?_
        refine lv_iconst (v := 0) hx hb d_LS_alignmentOf_78 (by decide) ?_
        exact rt_i hc w d_LS_alignmentOf_79 (by rw [← e0, f_LS_alignmentOf, if_neg q1_0, if_neg q1_1, if_pos q1_2] <;> rfl)
      · by_cases q1_3 : a1 = (35 : Int32)
        · refine lv_tableIn (tgt := 80) (off := 79) hx hb d_LS_alignmentOf_1 (by rw [q1_3]; decide) (by rw [q1_3]; decide) (by rw [q1_3]; rfl) (by decide) ?_
          refine lv_iconst (v := 3) hx hb d_LS_alignmentOf_80 (by decide) ?_
          exact rt_i hc w d_LS_alignmentOf_81 (by rw [← e0, f_LS_alignmentOf, if_neg q1_0, if_neg q1_1, if_neg q1_2, if_pos q1_3] <;> rfl)
        · by_cases q1_4 : a1 = (36 : Int32)
          · refine lv_tableIn (tgt := 78) (off := 77) hx hb d_LS_alignmentOf_1 (by rw [q1_4]; decide) (by rw [q1_4]; decide) (by rw [q1_4]; rfl) (by decide) ?_
            refine lv_iconst (v := 0) hx hb d_LS_alignmentOf_78 (by decide) ?_
            exact rt_i hc w d_LS_alignmentOf_79 (by rw [← e0, f_LS_alignmentOf, if_neg q1_0, if_neg q1_1, if_neg q1_2, if_neg q1_3, if_pos q1_4] <;> rfl)
          · by_cases q1_5 : a1 = (37 : Int32)
            · refine lv_tableIn (tgt := 76) (off := 75) hx hb d_LS_alignmentOf_1 (by rw [q1_5]; decide) (by rw [q1_5]; decide) (by rw [q1_5]; rfl) (by decide) ?_
              refine lv_iconst (v := 1) hx hb d_LS_alignmentOf_76 (by decide) ?_
              exact rt_i hc w d_LS_alignmentOf_77 (by rw [← e0, f_LS_alignmentOf, if_neg q1_0, if_neg q1_1, if_neg q1_2, if_neg q1_3, if_neg q1_4, if_pos q1_5] <;> rfl)
            · by_cases q1_6 : a1 = (38 : Int32)
              · refine lv_tableIn (tgt := 78) (off := 77) hx hb d_LS_alignmentOf_1 (by rw [q1_6]; decide) (by rw [q1_6]; decide) (by rw [q1_6]; rfl) (by decide) ?_
                refine lv_iconst (v := 0) hx hb d_LS_alignmentOf_78 (by decide) ?_
                exact rt_i hc w d_LS_alignmentOf_79 (by rw [← e0, f_LS_alignmentOf, if_neg q1_0, if_neg q1_1, if_neg q1_2, if_neg q1_3, if_neg q1_4, if_neg q1_5, if_pos q1_6] <;> rfl)
              · by_cases q1_7 : a1 = (39 : Int32)
                · refine lv_tableIn (tgt := 80) (off := 79) hx hb d_LS_alignmentOf_1 (by rw [q1_7]; decide) (by rw [q1_7]; decide) (by rw [q1_7]; rfl) (by decide) ?_
                  refine lv_iconst (v := 3) hx hb d_LS_alignmentOf_80 (by decide) ?_
                  exact rt_i hc w d_LS_alignmentOf_81 (by rw [← e0, f_LS_alignmentOf, if_neg q1_0, if_neg q1_1, if_neg q1_2, if_neg q1_3, if_neg q1_4, if_neg q1_5, if_neg q1_6, if_pos q1_7] <;> rfl)
                · by_cases q1_8 : a1 = (40 : Int32)
                  · refine lv_tableIn (tgt := 78) (off := 77) hx hb d_LS_alignmentOf_1 (by rw [q1_8]; decide) (by rw [q1_8]; decide) (by rw [q1_8]; rfl) (by decide) ?_
                    refine lv_iconst (v := 0) hx hb d_LS_alignmentOf_78 (by decide) ?_
                    exact rt_i hc w d_LS_alignmentOf_79 (by rw [← e0, f_LS_alignmentOf, if_neg q1_0, if_neg q1_1, if_neg q1_2, if_neg q1_3, if_neg q1_4, if_neg q1_5, if_neg q1_6, if_neg q1_7, if_pos q1_8] <;> rfl)
                  · by_cases q1_9 : a1 = (41 : Int32)
                    · refine lv_tableIn (tgt := 76) (off := 75) hx hb d_LS_alignmentOf_1 (by rw [q1_9]; decide) (by rw [q1_9]; decide) (by rw [q1_9]; rfl) (by decide) ?_
                      refine lv_iconst (v := 1) hx hb d_LS_alignmentOf_76 (by decide) ?_
                      exact rt_i hc w d_LS_alignmentOf_77 (by rw [← e0, f_LS_alignmentOf, if_neg q1_0, if_neg q1_1, if_neg q1_2, if_neg q1_3, if_neg q1_4, if_neg q1_5, if_neg q1_6, if_neg q1_7, if_neg q1_8, if_pos q1_9] <;> rfl)
                    · by_cases q1_10 : a1 = (42 : Int32)
                      · refine lv_tableIn (tgt := 78) (off := 77) hx hb d_LS_alignmentOf_1 (by rw [q1_10]; decide) (by rw [q1_10]; decide) (by rw [q1_10]; rfl) (by decide) ?_
                        refine lv_iconst (v := 0) hx hb d_LS_alignmentOf_78 (by decide) ?_
                        exact rt_i hc w d_LS_alignmentOf_79 (by rw [← e0, f_LS_alignmentOf, if_neg q1_0, if_neg q1_1, if_neg q1_2, if_neg q1_3, if_neg q1_4, if_neg q1_5, if_neg q1_6, if_neg q1_7, if_neg q1_8, if_neg q1_9, if_pos q1_10] <;> rfl)
                      · by_cases q1_11 : a1 = (43 : Int32)
                        · refine lv_tableIn (tgt := 80) (off := 79) hx hb d_LS_alignmentOf_1 (by rw [q1_11]; decide) (by rw [q1_11]; decide) (by rw [q1_11]; rfl) (by decide) ?_
                          refine lv_iconst (v := 3) hx hb d_LS_alignmentOf_80 (by decide) ?_
                          exact rt_i hc w d_LS_alignmentOf_81 (by rw [← e0, f_LS_alignmentOf, if_neg q1_0, if_neg q1_1, if_neg q1_2, if_neg q1_3, if_neg q1_4, if_neg q1_5, if_neg q1_6, if_neg q1_7, if_neg q1_8, if_neg q1_9, if_neg q1_10, if_pos q1_11] <;> rfl)
                        · by_cases q1_12 : a1 = (44 : Int32)
                          · refine lv_tableIn (tgt := 80) (off := 79) hx hb d_LS_alignmentOf_1 (by rw [q1_12]; decide) (by rw [q1_12]; decide) (by rw [q1_12]; rfl) (by decide) ?_
                            refine lv_iconst (v := 3) hx hb d_LS_alignmentOf_80 (by decide) ?_
                            exact rt_i hc w d_LS_alignmentOf_81 (by rw [← e0, f_LS_alignmentOf, if_neg q1_0, if_neg q1_1, if_neg q1_2, if_neg q1_3, if_neg q1_4, if_neg q1_5, if_neg q1_6, if_neg q1_7, if_neg q1_8, if_neg q1_9, if_neg q1_10, if_neg q1_11, if_pos q1_12] <;> rfl)
                          · by_cases q1_13 : a1 = (45 : Int32)
                            · refine lv_tableIn (tgt := 80) (off := 79) hx hb d_LS_alignmentOf_1 (by rw [q1_13]; decide) (by rw [q1_13]; decide) (by rw [q1_13]; rfl) (by decide) ?_
                              refine lv_iconst (v := 3) hx hb d_LS_alignmentOf_80 (by decide) ?_
                              exact rt_i hc w d_LS_alignmentOf_81 (by rw [← e0, f_LS_alignmentOf, if_neg q1_0, if_neg q1_1, if_neg q1_2, if_neg q1_3, if_neg q1_4, if_neg q1_5, if_neg q1_6, if_neg q1_7, if_neg q1_8, if_neg q1_9, if_neg q1_10, if_neg q1_11, if_neg q1_12, if_pos q1_13] <;> rfl)
                            · by_cases q1_14 : a1 = (46 : Int32)
                              · refine lv_tableIn (tgt := 78) (off := 77) hx hb d_LS_alignmentOf_1 (by rw [q1_14]; decide) (by rw [q1_14]; decide) (by rw [q1_14]; rfl) (by decide) ?_
                                refine lv_iconst (v := 0) hx hb d_LS_alignmentOf_78 (by decide) ?_
                                exact rt_i hc w d_LS_alignmentOf_79 (by rw [← e0, f_LS_alignmentOf, if_neg q1_0, if_neg q1_1, if_neg q1_2, if_neg q1_3, if_neg q1_4, if_neg q1_5, if_neg q1_6, if_neg q1_7, if_neg q1_8, if_neg q1_9, if_neg q1_10, if_neg q1_11, if_neg q1_12, if_neg q1_13, if_pos q1_14] <;> rfl)
                              · refine lv_tableOut (tgt := 80) hx hb d_LS_alignmentOf_1 (by have k0 := ne_k q1_0 (n := 32) (by decide); have k1 := ne_k q1_1 (n := 33) (by decide); have k2 := ne_k q1_2 (n := 34) (by decide); have k3 := ne_k q1_3 (n := 35) (by decide); have k4 := ne_k q1_4 (n := 36) (by decide); have k5 := ne_k q1_5 (n := 37) (by decide); have k6 := ne_k q1_6 (n := 38) (by decide); have k7 := ne_k q1_7 (n := 39) (by decide); have k8 := ne_k q1_8 (n := 40) (by decide); have k9 := ne_k q1_9 (n := 41) (by decide); have k10 := ne_k q1_10 (n := 42) (by decide); have k11 := ne_k q1_11 (n := 43) (by decide); have k12 := ne_k q1_12 (n := 44) (by decide); have k13 := ne_k q1_13 (n := 45) (by decide); have k14 := ne_k q1_14 (n := 46) (by decide); omega) (by decide) ?_
                                refine lv_iconst (v := 3) hx hb d_LS_alignmentOf_80 (by decide) ?_
                                exact rt_i hc w d_LS_alignmentOf_81 (by rw [← e0, f_LS_alignmentOf, if_neg q1_0, if_neg q1_1, if_neg q1_2, if_neg q1_3, if_neg q1_4, if_neg q1_5, if_neg q1_6, if_neg q1_7, if_neg q1_8, if_neg q1_9, if_neg q1_10, if_neg q1_11, if_neg q1_12, if_neg q1_13, if_neg q1_14] <;> rfl)
-- LS_merged
def f_LS_merged (σ : XS) (a1 : Int32) (a2 : Int32) (a3 : Int32) : Int32 := (a1 &&& (a3 ^^^ (-1 : Int32))) ||| (a2 &&& a3)
theorem d_LS_merged_0 : decode b_LS_merged 0 = .ok (.iload_n 0, 1) := by decide +kernel
theorem d_LS_merged_1 : decode b_LS_merged 1 = .ok (.iload_n 2, 1) := by decide +kernel
theorem d_LS_merged_2 : decode b_LS_merged 2 = .ok (.iconst (-1), 1) := by decide +kernel
theorem d_LS_merged_3 : decode b_LS_merged 3 = .ok (.ixor, 1) := by decide +kernel
theorem d_LS_merged_4 : decode b_LS_merged 4 = .ok (.iand, 1) := by decide +kernel
theorem d_LS_merged_5 : decode b_LS_merged 5 = .ok (.iload_n 1, 1) := by decide +kernel
theorem d_LS_merged_6 : decode b_LS_merged 6 = .ok (.iload_n 2, 1) := by decide +kernel
theorem d_LS_merged_7 : decode b_LS_merged 7 = .ok (.iand, 1) := by decide +kernel
theorem d_LS_merged_8 : decode b_LS_merged 8 = .ok (.ior, 1) := by decide +kernel
theorem d_LS_merged_9 : decode b_LS_merged 9 = .ok (.ireturn, 1) := by decide +kernel
set_option maxHeartbeats 4000000 in
set_option maxRecDepth 100000 in
theorem c_LS_merged (l : Launch) (E : Ev) (ad : Nat → Nat) (σ : XS) (a1 : Int32) (a2 : Int32) (a3 : Int32) : rC xCl l E (xW E ad) y_LS_merged b_LS_merged 3 (Option.some Jvm.ClassFile.FieldType.int) (rmo 0 0) [.int a1, .int a2, .int a3] σ ((σ, some (Value.int (f_LS_merged σ a1 a2 a3)))) := by
  refine rC.of (by decide) (Nat.le_of_ble_eq_true rfl) ?_
  intro p e s m below meth c A ls hc w hl
  generalize e0 : (σ, some (Value.int (f_LS_merged σ a1 a2 a3))) = Z
  have hc : Cx xCl E A p s m ([.int a1, .int a2, .int a3] : List Value).toArray meth c b_LS_merged 3 (Option.some Jvm.ClassFile.FieldType.int) "PageMachine$LoadsAndStores" := hc
  have hx := hc.1
  have hb := hc.2.1
  have ho := hc.2.2.2.2.2.1
  have hT := hc.2.2.2.2.2.2.1
  have hl : lv_has ls 3 [(0, .int a1), (1, .int a2), (2, .int a3)] := hl
  refine lv_iload_n hx hb d_LS_merged_0 rfl (lv_at hl 0 rfl) ?_
  refine lv_iload_n hx hb d_LS_merged_1 rfl (lv_at hl 2 rfl) ?_
  refine lv_iconst (v := -1) hx hb d_LS_merged_2 (by decide) ?_
  refine lv_ixor hx hb d_LS_merged_3 ?_
  refine lv_iand hx hb d_LS_merged_4 ?_
  refine lv_iload_n hx hb d_LS_merged_5 rfl (lv_at hl 1 rfl) ?_
  refine lv_iload_n hx hb d_LS_merged_6 rfl (lv_at hl 2 rfl) ?_
  refine lv_iand hx hb d_LS_merged_7 ?_
  refine lv_ior hx hb d_LS_merged_8 ?_
  exact rt_i hc w d_LS_merged_9 (by rw [← e0, f_LS_merged] <;> rfl)
-- LS_loaded
def f_LS_loaded (σ : XS) (a1 : Int32) (a2 : Int32) (a3 : Int32) (a4 : Int32) : Int32 := if a1 = (32 : Int32) then ((a2 <<< (((8 : Int32) * a3) &&& 31)) >>> ((24 : Int32) &&& 31)) else (if a1 = (33 : Int32) then ((a2 <<< (((8 : Int32) * a3) &&& 31)) >>> ((16 : Int32) &&& 31)) else (if a1 = (34 : Int32) then ((a2 <<< (((8 : Int32) * a3) &&& 31)) ||| (a4 &&& (((-1 : Int32) <<< (((8 : Int32) * a3) &&& 31)) ^^^ (-1 : Int32)))) else (if a1 = (35 : Int32) then (a2) else (if a1 = (36 : Int32) then ((Int32.toUInt32 (a2 <<< (((8 : Int32) * a3) &&& 31)) >>> (Int32.toUInt32 (24 : Int32) &&& Int32.toUInt32 31)).toInt32) else (if a1 = (37 : Int32) then ((Int32.toUInt32 (a2 <<< (((8 : Int32) * a3) &&& 31)) >>> (Int32.toUInt32 (16 : Int32) &&& Int32.toUInt32 31)).toInt32) else (if a1 = (38 : Int32) then (((Int32.toUInt32 a2 >>> (Int32.toUInt32 ((24 : Int32) - ((8 : Int32) * a3)) &&& Int32.toUInt32 31)).toInt32) ||| (a4 &&& (((Int32.toUInt32 (-1 : Int32) >>> (Int32.toUInt32 ((24 : Int32) - ((8 : Int32) * a3)) &&& Int32.toUInt32 31)).toInt32) ^^^ (-1 : Int32)))) else (a2)))))))
theorem d_LS_loaded_0 : decode b_LS_loaded 0 = .ok (.iload_n 1, 1) := by decide +kernel
theorem d_LS_loaded_1 : decode b_LS_loaded 1 = .ok (.bipush 8, 2) := by decide +kernel
theorem d_LS_loaded_3 : decode b_LS_loaded 3 = .ok (.iload_n 2, 1) := by decide +kernel
theorem d_LS_loaded_4 : decode b_LS_loaded 4 = .ok (.imul, 1) := by decide +kernel
theorem d_LS_loaded_5 : decode b_LS_loaded 5 = .ok (.ishl, 1) := by decide +kernel
theorem d_LS_loaded_6 : decode b_LS_loaded 6 = .ok (.istore 4, 2) := by decide +kernel
theorem d_LS_loaded_8 : decode b_LS_loaded 8 = .ok (.bipush 24, 2) := by decide +kernel
theorem d_LS_loaded_10 : decode b_LS_loaded 10 = .ok (.bipush 8, 2) := by decide +kernel
theorem d_LS_loaded_12 : decode b_LS_loaded 12 = .ok (.iload_n 2, 1) := by decide +kernel
theorem d_LS_loaded_13 : decode b_LS_loaded 13 = .ok (.imul, 1) := by decide +kernel
theorem d_LS_loaded_14 : decode b_LS_loaded 14 = .ok (.isub, 1) := by decide +kernel
theorem d_LS_loaded_15 : decode b_LS_loaded 15 = .ok (.istore 5, 2) := by decide +kernel
theorem d_LS_loaded_17 : decode b_LS_loaded 17 = .ok (.iload_n 0, 1) := by decide +kernel
theorem d_LS_loaded_18 : decode b_LS_loaded 18 = .ok (.tableswitch 94 32 38 #[42, 54, 66, 94, 48, 60, 80], 42) := by decide +kernel
theorem d_LS_loaded_60 : decode b_LS_loaded 60 = .ok (.iload 4, 2) := by decide +kernel
theorem d_LS_loaded_62 : decode b_LS_loaded 62 = .ok (.bipush 24, 2) := by decide +kernel
theorem d_LS_loaded_64 : decode b_LS_loaded 64 = .ok (.ishr, 1) := by decide +kernel
theorem d_LS_loaded_65 : decode b_LS_loaded 65 = .ok (.ireturn, 1) := by decide +kernel
theorem d_LS_loaded_66 : decode b_LS_loaded 66 = .ok (.iload 4, 2) := by decide +kernel
theorem d_LS_loaded_68 : decode b_LS_loaded 68 = .ok (.bipush 24, 2) := by decide +kernel
theorem d_LS_loaded_70 : decode b_LS_loaded 70 = .ok (.iushr, 1) := by decide +kernel
theorem d_LS_loaded_71 : decode b_LS_loaded 71 = .ok (.ireturn, 1) := by decide +kernel
theorem d_LS_loaded_72 : decode b_LS_loaded 72 = .ok (.iload 4, 2) := by decide +kernel
theorem d_LS_loaded_74 : decode b_LS_loaded 74 = .ok (.bipush 16, 2) := by decide +kernel
theorem d_LS_loaded_76 : decode b_LS_loaded 76 = .ok (.ishr, 1) := by decide +kernel
theorem d_LS_loaded_77 : decode b_LS_loaded 77 = .ok (.ireturn, 1) := by decide +kernel
theorem d_LS_loaded_78 : decode b_LS_loaded 78 = .ok (.iload 4, 2) := by decide +kernel
theorem d_LS_loaded_80 : decode b_LS_loaded 80 = .ok (.bipush 16, 2) := by decide +kernel
theorem d_LS_loaded_82 : decode b_LS_loaded 82 = .ok (.iushr, 1) := by decide +kernel
theorem d_LS_loaded_83 : decode b_LS_loaded 83 = .ok (.ireturn, 1) := by decide +kernel
theorem d_LS_loaded_84 : decode b_LS_loaded 84 = .ok (.iload 4, 2) := by decide +kernel
theorem d_LS_loaded_86 : decode b_LS_loaded 86 = .ok (.iload_n 3, 1) := by decide +kernel
theorem d_LS_loaded_87 : decode b_LS_loaded 87 = .ok (.iconst (-1), 1) := by decide +kernel
theorem d_LS_loaded_88 : decode b_LS_loaded 88 = .ok (.bipush 8, 2) := by decide +kernel
theorem d_LS_loaded_90 : decode b_LS_loaded 90 = .ok (.iload_n 2, 1) := by decide +kernel
theorem d_LS_loaded_91 : decode b_LS_loaded 91 = .ok (.imul, 1) := by decide +kernel
theorem d_LS_loaded_92 : decode b_LS_loaded 92 = .ok (.ishl, 1) := by decide +kernel
theorem d_LS_loaded_93 : decode b_LS_loaded 93 = .ok (.iconst (-1), 1) := by decide +kernel
theorem d_LS_loaded_94 : decode b_LS_loaded 94 = .ok (.ixor, 1) := by decide +kernel
theorem d_LS_loaded_95 : decode b_LS_loaded 95 = .ok (.iand, 1) := by decide +kernel
theorem d_LS_loaded_96 : decode b_LS_loaded 96 = .ok (.ior, 1) := by decide +kernel
theorem d_LS_loaded_97 : decode b_LS_loaded 97 = .ok (.ireturn, 1) := by decide +kernel
theorem d_LS_loaded_98 : decode b_LS_loaded 98 = .ok (.iload_n 1, 1) := by decide +kernel
theorem d_LS_loaded_99 : decode b_LS_loaded 99 = .ok (.iload 5, 2) := by decide +kernel
theorem d_LS_loaded_101 : decode b_LS_loaded 101 = .ok (.iushr, 1) := by decide +kernel
theorem d_LS_loaded_102 : decode b_LS_loaded 102 = .ok (.iload_n 3, 1) := by decide +kernel
theorem d_LS_loaded_103 : decode b_LS_loaded 103 = .ok (.iconst (-1), 1) := by decide +kernel
theorem d_LS_loaded_104 : decode b_LS_loaded 104 = .ok (.iload 5, 2) := by decide +kernel
theorem d_LS_loaded_106 : decode b_LS_loaded 106 = .ok (.iushr, 1) := by decide +kernel
theorem d_LS_loaded_107 : decode b_LS_loaded 107 = .ok (.iconst (-1), 1) := by decide +kernel
theorem d_LS_loaded_108 : decode b_LS_loaded 108 = .ok (.ixor, 1) := by decide +kernel
theorem d_LS_loaded_109 : decode b_LS_loaded 109 = .ok (.iand, 1) := by decide +kernel
theorem d_LS_loaded_110 : decode b_LS_loaded 110 = .ok (.ior, 1) := by decide +kernel
theorem d_LS_loaded_111 : decode b_LS_loaded 111 = .ok (.ireturn, 1) := by decide +kernel
theorem d_LS_loaded_112 : decode b_LS_loaded 112 = .ok (.iload_n 1, 1) := by decide +kernel
theorem d_LS_loaded_113 : decode b_LS_loaded 113 = .ok (.ireturn, 1) := by decide +kernel
set_option maxHeartbeats 4000000 in
set_option maxRecDepth 100000 in
theorem c_LS_loaded (l : Launch) (E : Ev) (ad : Nat → Nat) (σ : XS) (a1 : Int32) (a2 : Int32) (a3 : Int32) (a4 : Int32) : rC xCl l E (xW E ad) y_LS_loaded b_LS_loaded 6 (Option.some Jvm.ClassFile.FieldType.int) (rmo 0 0) [.int a1, .int a2, .int a3, .int a4] σ ((σ, some (Value.int (f_LS_loaded σ a1 a2 a3 a4)))) := by
  refine rC.of (by decide) (Nat.le_of_ble_eq_true rfl) ?_
  intro p e s m below meth c A ls hc w hl
  generalize e0 : (σ, some (Value.int (f_LS_loaded σ a1 a2 a3 a4))) = Z
  have hc : Cx xCl E A p s m ([.int a1, .int a2, .int a3, .int a4] : List Value).toArray meth c b_LS_loaded 6 (Option.some Jvm.ClassFile.FieldType.int) "PageMachine$LoadsAndStores" := hc
  have hx := hc.1
  have hb := hc.2.1
  have ho := hc.2.2.2.2.2.1
  have hT := hc.2.2.2.2.2.2.1
  have hl : lv_has ls 6 [(0, .int a1), (1, .int a2), (2, .int a3), (3, .int a4)] := hl
  refine lv_iload_n hx hb d_LS_loaded_0 rfl (lv_at hl 1 rfl) ?_
  refine lv_bipush (v := 8) hx hb d_LS_loaded_1 (by decide) ?_
  refine lv_iload_n hx hb d_LS_loaded_3 rfl (lv_at hl 2 rfl) ?_
  refine lv_imul hx hb d_LS_loaded_4 ?_
  refine lv_ishl hx hb d_LS_loaded_5 ?_
  refine lv_istore (lv' := [(4, .int (a2 <<< (((8 : Int32) * a3) &&& 31))), (0, .int a1), (1, .int a2), (2, .int a3), (3, .int a4)]) hx hb d_LS_loaded_6 hl (by decide) rfl (fun ls hl => ?_)
  refine lv_bipush (v := 24) hx hb d_LS_loaded_8 (by decide) ?_
  refine lv_bipush (v := 8) hx hb d_LS_loaded_10 (by decide) ?_
  refine lv_iload_n hx hb d_LS_loaded_12 rfl (lv_at hl 3 rfl) ?_
  refine lv_imul hx hb d_LS_loaded_13 ?_
  refine lv_isub hx hb d_LS_loaded_14 ?_
  refine lv_istore (lv' := [(5, .int ((24 : Int32) - ((8 : Int32) * a3))), (4, .int (a2 <<< (((8 : Int32) * a3) &&& 31))), (0, .int a1), (1, .int a2), (2, .int a3), (3, .int a4)]) hx hb d_LS_loaded_15 hl (by decide) rfl (fun ls hl => ?_)
  refine lv_iload_n hx hb d_LS_loaded_17 rfl (lv_at hl 2 rfl) ?_
  by_cases q18_0 : a1 = (32 : Int32)
  · refine lv_tableIn (tgt := 60) (off := 42) hx hb d_LS_loaded_18 (by rw [q18_0]; decide) (by rw [q18_0]; decide) (by rw [q18_0]; rfl) (by decide) ?_
    refine lv_iload hx hb d_LS_loaded_60 (lv_at hl 1 rfl) ?_
    refine lv_bipush (v := 24) hx hb d_LS_loaded_62 (by decide) ?_
    refine lv_ishr hx hb d_LS_loaded_64 ?_
    exact rt_i hc w d_LS_loaded_65 (by rw [← e0, f_LS_loaded, if_pos q18_0] <;> rfl)
  · by_cases q18_1 : a1 = (33 : Int32)
    · refine lv_tableIn (tgt := 72) (off := 54) hx hb d_LS_loaded_18 (by rw [q18_1]; decide) (by rw [q18_1]; decide) (by rw [q18_1]; rfl) (by decide) ?_
      refine lv_iload hx hb d_LS_loaded_72 (lv_at hl 1 rfl) ?_
      refine lv_bipush (v := 16) hx hb d_LS_loaded_74 (by decide) ?_
      refine lv_ishr hx hb d_LS_loaded_76 ?_
      exact rt_i hc w d_LS_loaded_77 (by rw [← e0, f_LS_loaded, if_neg q18_0, if_pos q18_1] <;> rfl)
    · by_cases q18_2 : a1 = (34 : Int32)
      · refine lv_tableIn (tgt := 84) (off := 66) hx hb d_LS_loaded_18 (by rw [q18_2]; decide) (by rw [q18_2]; decide) (by rw [q18_2]; rfl) (by decide) ?_
        refine lv_iload hx hb d_LS_loaded_84 (lv_at hl 1 rfl) ?_
        refine lv_iload_n hx hb d_LS_loaded_86 rfl (lv_at hl 5 rfl) ?_
        refine lv_iconst (v := -1) hx hb d_LS_loaded_87 (by decide) ?_
        refine lv_bipush (v := 8) hx hb d_LS_loaded_88 (by decide) ?_
        refine lv_iload_n hx hb d_LS_loaded_90 rfl (lv_at hl 4 rfl) ?_
        refine lv_imul hx hb d_LS_loaded_91 ?_
        refine lv_ishl hx hb d_LS_loaded_92 ?_
        refine lv_iconst (v := -1) hx hb d_LS_loaded_93 (by decide) ?_
        refine lv_ixor hx hb d_LS_loaded_94 ?_
        refine lv_iand hx hb d_LS_loaded_95 ?_
        refine lv_ior hx hb d_LS_loaded_96 ?_
        exact rt_i hc w d_LS_loaded_97 (by rw [← e0, f_LS_loaded, if_neg q18_0, if_neg q18_1, if_pos q18_2] <;> rfl)
      · by_cases q18_3 : a1 = (35 : Int32)
        · refine lv_tableIn (tgt := 112) (off := 94) hx hb d_LS_loaded_18 (by rw [q18_3]; decide) (by rw [q18_3]; decide) (by rw [q18_3]; rfl) (by decide) ?_
          refine lv_iload_n hx hb d_LS_loaded_112 rfl (lv_at hl 3 rfl) ?_
          exact rt_i hc w d_LS_loaded_113 (by rw [← e0, f_LS_loaded, if_neg q18_0, if_neg q18_1, if_neg q18_2, if_pos q18_3] <;> rfl)
        · by_cases q18_4 : a1 = (36 : Int32)
          · refine lv_tableIn (tgt := 66) (off := 48) hx hb d_LS_loaded_18 (by rw [q18_4]; decide) (by rw [q18_4]; decide) (by rw [q18_4]; rfl) (by decide) ?_
            refine lv_iload hx hb d_LS_loaded_66 (lv_at hl 1 rfl) ?_
            refine lv_bipush (v := 24) hx hb d_LS_loaded_68 (by decide) ?_
            refine lv_iushr hx hb d_LS_loaded_70 rfl ?_
            exact rt_i hc w d_LS_loaded_71 (by rw [← e0, f_LS_loaded, if_neg q18_0, if_neg q18_1, if_neg q18_2, if_neg q18_3, if_pos q18_4] <;> rfl)
          · by_cases q18_5 : a1 = (37 : Int32)
            · refine lv_tableIn (tgt := 78) (off := 60) hx hb d_LS_loaded_18 (by rw [q18_5]; decide) (by rw [q18_5]; decide) (by rw [q18_5]; rfl) (by decide) ?_
              refine lv_iload hx hb d_LS_loaded_78 (lv_at hl 1 rfl) ?_
              refine lv_bipush (v := 16) hx hb d_LS_loaded_80 (by decide) ?_
              refine lv_iushr hx hb d_LS_loaded_82 rfl ?_
              exact rt_i hc w d_LS_loaded_83 (by rw [← e0, f_LS_loaded, if_neg q18_0, if_neg q18_1, if_neg q18_2, if_neg q18_3, if_neg q18_4, if_pos q18_5] <;> rfl)
            · by_cases q18_6 : a1 = (38 : Int32)
              · refine lv_tableIn (tgt := 98) (off := 80) hx hb d_LS_loaded_18 (by rw [q18_6]; decide) (by rw [q18_6]; decide) (by rw [q18_6]; rfl) (by decide) ?_
                refine lv_iload_n hx hb d_LS_loaded_98 rfl (lv_at hl 3 rfl) ?_
                refine lv_iload hx hb d_LS_loaded_99 (lv_at hl 0 rfl) ?_
                refine lv_iushr hx hb d_LS_loaded_101 rfl ?_
                refine lv_iload_n hx hb d_LS_loaded_102 rfl (lv_at hl 5 rfl) ?_
                refine lv_iconst (v := -1) hx hb d_LS_loaded_103 (by decide) ?_
                refine lv_iload hx hb d_LS_loaded_104 (lv_at hl 0 rfl) ?_
                refine lv_iushr hx hb d_LS_loaded_106 rfl ?_
                refine lv_iconst (v := -1) hx hb d_LS_loaded_107 (by decide) ?_
                refine lv_ixor hx hb d_LS_loaded_108 ?_
                refine lv_iand hx hb d_LS_loaded_109 ?_
                refine lv_ior hx hb d_LS_loaded_110 ?_
                exact rt_i hc w d_LS_loaded_111 (by rw [← e0, f_LS_loaded, if_neg q18_0, if_neg q18_1, if_neg q18_2, if_neg q18_3, if_neg q18_4, if_neg q18_5, if_pos q18_6] <;> rfl)
              · refine lv_tableOut (tgt := 112) hx hb d_LS_loaded_18 (by have k0 := ne_k q18_0 (n := 32) (by decide); have k1 := ne_k q18_1 (n := 33) (by decide); have k2 := ne_k q18_2 (n := 34) (by decide); have k3 := ne_k q18_3 (n := 35) (by decide); have k4 := ne_k q18_4 (n := 36) (by decide); have k5 := ne_k q18_5 (n := 37) (by decide); have k6 := ne_k q18_6 (n := 38) (by decide); omega) (by decide) ?_
                refine lv_iload_n hx hb d_LS_loaded_112 rfl (lv_at hl 3 rfl) ?_
                exact rt_i hc w d_LS_loaded_113 (by rw [← e0, f_LS_loaded, if_neg q18_0, if_neg q18_1, if_neg q18_2, if_neg q18_3, if_neg q18_4, if_neg q18_5, if_neg q18_6] <;> rfl)
-- LS_stored
def f_LS_stored (σ : XS) (a1 : Int32) (a2 : Int32) (a3 : Int32) (a4 : Int32) : Int32 := if a1 = (40 : Int32) then (f_LS_merged σ a2 (a4 <<< (((24 : Int32) - ((8 : Int32) * a3)) &&& 31)) ((255 : Int32) <<< (((24 : Int32) - ((8 : Int32) * a3)) &&& 31))) else (if a1 = (41 : Int32) then (f_LS_merged σ a2 (a4 <<< ((((24 : Int32) - ((8 : Int32) * a3)) - (8 : Int32)) &&& 31)) ((65535 : Int32) <<< ((((24 : Int32) - ((8 : Int32) * a3)) - (8 : Int32)) &&& 31))) else (if a1 = (42 : Int32) then (f_LS_merged σ a2 ((Int32.toUInt32 a4 >>> (Int32.toUInt32 ((8 : Int32) * a3) &&& Int32.toUInt32 31)).toInt32) ((Int32.toUInt32 (-1 : Int32) >>> (Int32.toUInt32 ((8 : Int32) * a3) &&& Int32.toUInt32 31)).toInt32)) else (if a1 = (43 : Int32) then (a4) else (if a1 = (44 : Int32) then (a4) else (if a1 = (45 : Int32) then (a4) else (if a1 = (46 : Int32) then (f_LS_merged σ a2 (a4 <<< (((24 : Int32) - ((8 : Int32) * a3)) &&& 31)) ((-1 : Int32) <<< (((24 : Int32) - ((8 : Int32) * a3)) &&& 31))) else (a4)))))))
theorem d_LS_stored_0 : decode b_LS_stored 0 = .ok (.bipush 24, 2) := by decide +kernel
theorem d_LS_stored_2 : decode b_LS_stored 2 = .ok (.bipush 8, 2) := by decide +kernel
theorem d_LS_stored_4 : decode b_LS_stored 4 = .ok (.iload_n 2, 1) := by decide +kernel
theorem d_LS_stored_5 : decode b_LS_stored 5 = .ok (.imul, 1) := by decide +kernel
theorem d_LS_stored_6 : decode b_LS_stored 6 = .ok (.isub, 1) := by decide +kernel
theorem d_LS_stored_7 : decode b_LS_stored 7 = .ok (.istore 4, 2) := by decide +kernel
theorem d_LS_stored_9 : decode b_LS_stored 9 = .ok (.iload_n 0, 1) := by decide +kernel
theorem d_LS_stored_10 : decode b_LS_stored 10 = .ok (.tableswitch 107 40 46 #[42, 57, 77, 107, 107, 107, 94], 42) := by decide +kernel
theorem d_LS_stored_52 : decode b_LS_stored 52 = .ok (.iload_n 1, 1) := by decide +kernel
theorem d_LS_stored_53 : decode b_LS_stored 53 = .ok (.iload_n 3, 1) := by decide +kernel
theorem d_LS_stored_54 : decode b_LS_stored 54 = .ok (.iload 4, 2) := by decide +kernel
theorem d_LS_stored_56 : decode b_LS_stored 56 = .ok (.ishl, 1) := by decide +kernel
theorem d_LS_stored_57 : decode b_LS_stored 57 = .ok (.sipush 255, 3) := by decide +kernel
theorem d_LS_stored_60 : decode b_LS_stored 60 = .ok (.iload 4, 2) := by decide +kernel
theorem d_LS_stored_62 : decode b_LS_stored 62 = .ok (.ishl, 1) := by decide +kernel
theorem d_LS_stored_63 : decode b_LS_stored 63 = .ok (.invokestatic 85, 3) := by decide +kernel
theorem d_LS_stored_66 : decode b_LS_stored 66 = .ok (.ireturn, 1) := by decide +kernel
theorem d_LS_stored_67 : decode b_LS_stored 67 = .ok (.iload_n 1, 1) := by decide +kernel
theorem d_LS_stored_68 : decode b_LS_stored 68 = .ok (.iload_n 3, 1) := by decide +kernel
theorem d_LS_stored_69 : decode b_LS_stored 69 = .ok (.iload 4, 2) := by decide +kernel
theorem d_LS_stored_71 : decode b_LS_stored 71 = .ok (.bipush 8, 2) := by decide +kernel
theorem d_LS_stored_73 : decode b_LS_stored 73 = .ok (.isub, 1) := by decide +kernel
theorem d_LS_stored_74 : decode b_LS_stored 74 = .ok (.ishl, 1) := by decide +kernel
theorem d_LS_stored_75 : decode b_LS_stored 75 = .ok (.ldc 89, 2) := by decide +kernel
theorem d_LS_stored_77 : decode b_LS_stored 77 = .ok (.iload 4, 2) := by decide +kernel
theorem d_LS_stored_79 : decode b_LS_stored 79 = .ok (.bipush 8, 2) := by decide +kernel
theorem d_LS_stored_81 : decode b_LS_stored 81 = .ok (.isub, 1) := by decide +kernel
theorem d_LS_stored_82 : decode b_LS_stored 82 = .ok (.ishl, 1) := by decide +kernel
theorem d_LS_stored_83 : decode b_LS_stored 83 = .ok (.invokestatic 85, 3) := by decide +kernel
theorem d_LS_stored_86 : decode b_LS_stored 86 = .ok (.ireturn, 1) := by decide +kernel
theorem d_LS_stored_87 : decode b_LS_stored 87 = .ok (.iload_n 1, 1) := by decide +kernel
theorem d_LS_stored_88 : decode b_LS_stored 88 = .ok (.iload_n 3, 1) := by decide +kernel
theorem d_LS_stored_89 : decode b_LS_stored 89 = .ok (.bipush 8, 2) := by decide +kernel
theorem d_LS_stored_91 : decode b_LS_stored 91 = .ok (.iload_n 2, 1) := by decide +kernel
theorem d_LS_stored_92 : decode b_LS_stored 92 = .ok (.imul, 1) := by decide +kernel
theorem d_LS_stored_93 : decode b_LS_stored 93 = .ok (.iushr, 1) := by decide +kernel
theorem d_LS_stored_94 : decode b_LS_stored 94 = .ok (.iconst (-1), 1) := by decide +kernel
theorem d_LS_stored_95 : decode b_LS_stored 95 = .ok (.bipush 8, 2) := by decide +kernel
theorem d_LS_stored_97 : decode b_LS_stored 97 = .ok (.iload_n 2, 1) := by decide +kernel
theorem d_LS_stored_98 : decode b_LS_stored 98 = .ok (.imul, 1) := by decide +kernel
theorem d_LS_stored_99 : decode b_LS_stored 99 = .ok (.iushr, 1) := by decide +kernel
theorem d_LS_stored_100 : decode b_LS_stored 100 = .ok (.invokestatic 85, 3) := by decide +kernel
theorem d_LS_stored_103 : decode b_LS_stored 103 = .ok (.ireturn, 1) := by decide +kernel
theorem d_LS_stored_104 : decode b_LS_stored 104 = .ok (.iload_n 1, 1) := by decide +kernel
theorem d_LS_stored_105 : decode b_LS_stored 105 = .ok (.iload_n 3, 1) := by decide +kernel
theorem d_LS_stored_106 : decode b_LS_stored 106 = .ok (.iload 4, 2) := by decide +kernel
theorem d_LS_stored_108 : decode b_LS_stored 108 = .ok (.ishl, 1) := by decide +kernel
theorem d_LS_stored_109 : decode b_LS_stored 109 = .ok (.iconst (-1), 1) := by decide +kernel
theorem d_LS_stored_110 : decode b_LS_stored 110 = .ok (.iload 4, 2) := by decide +kernel
theorem d_LS_stored_112 : decode b_LS_stored 112 = .ok (.ishl, 1) := by decide +kernel
theorem d_LS_stored_113 : decode b_LS_stored 113 = .ok (.invokestatic 85, 3) := by decide +kernel
theorem d_LS_stored_116 : decode b_LS_stored 116 = .ok (.ireturn, 1) := by decide +kernel
theorem d_LS_stored_117 : decode b_LS_stored 117 = .ok (.iload_n 3, 1) := by decide +kernel
theorem d_LS_stored_118 : decode b_LS_stored 118 = .ok (.ireturn, 1) := by decide +kernel
set_option maxHeartbeats 4000000 in
set_option maxRecDepth 100000 in
theorem c_LS_stored (l : Launch) (E : Ev) (ad : Nat → Nat) (σ : XS) (a1 : Int32) (a2 : Int32) (a3 : Int32) (a4 : Int32) : rC xCl l E (xW E ad) y_LS_stored b_LS_stored 5 (Option.some Jvm.ClassFile.FieldType.int) (rmo 1 22) [.int a1, .int a2, .int a3, .int a4] σ ((σ, some (Value.int (f_LS_stored σ a1 a2 a3 a4)))) := by
  refine rC.of (by decide) (Nat.le_of_ble_eq_true rfl) ?_
  intro p e s m below meth c A ls hc w hl
  generalize e0 : (σ, some (Value.int (f_LS_stored σ a1 a2 a3 a4))) = Z
  have hc : Cx xCl E A p s m ([.int a1, .int a2, .int a3, .int a4] : List Value).toArray meth c b_LS_stored 5 (Option.some Jvm.ClassFile.FieldType.int) "PageMachine$LoadsAndStores" := hc
  have hx := hc.1
  have hb := hc.2.1
  have ho := hc.2.2.2.2.2.1
  have hT := hc.2.2.2.2.2.2.1
  have hl : lv_has ls 5 [(0, .int a1), (1, .int a2), (2, .int a3), (3, .int a4)] := hl
  refine lv_bipush (v := 24) hx hb d_LS_stored_0 (by decide) ?_
  refine lv_bipush (v := 8) hx hb d_LS_stored_2 (by decide) ?_
  refine lv_iload_n hx hb d_LS_stored_4 rfl (lv_at hl 2 rfl) ?_
  refine lv_imul hx hb d_LS_stored_5 ?_
  refine lv_isub hx hb d_LS_stored_6 ?_
  refine lv_istore (lv' := [(4, .int ((24 : Int32) - ((8 : Int32) * a3))), (0, .int a1), (1, .int a2), (2, .int a3), (3, .int a4)]) hx hb d_LS_stored_7 hl (by decide) rfl (fun ls hl => ?_)
  refine lv_iload_n hx hb d_LS_stored_9 rfl (lv_at hl 1 rfl) ?_
  by_cases q10_0 : a1 = (40 : Int32)
  · refine lv_tableIn (tgt := 52) (off := 42) hx hb d_LS_stored_10 (by rw [q10_0]; decide) (by rw [q10_0]; decide) (by rw [q10_0]; rfl) (by decide) ?_
    refine lv_iload_n hx hb d_LS_stored_52 rfl (lv_at hl 2 rfl) ?_
    refine lv_iload_n hx hb d_LS_stored_53 rfl (lv_at hl 4 rfl) ?_
    refine lv_iload hx hb d_LS_stored_54 (lv_at hl 0 rfl) ?_
    refine lv_ishl hx hb d_LS_stored_56 ?_
    refine lv_sipush (v := 255) hx hb d_LS_stored_57 (by decide) ?_
    refine lv_iload hx hb d_LS_stored_60 (lv_at hl 0 rfl) ?_
    refine lv_ishl hx hb d_LS_stored_62 ?_
    refine rSI (rest := []) hc w (c_LS_merged l E ad σ a2 (a4 <<< (((24 : Int32) - ((8 : Int32) * a3)) &&& 31)) ((255 : Int32) <<< (((24 : Int32) - ((8 : Int32) * a3)) &&& 31))) ks_LS_merged mw_820 ⟨Nat.le_of_ble_eq_true rfl, Nat.le_of_ble_eq_true rfl⟩ hl.1 rfl (Nat.le_of_ble_eq_true rfl) ⟨Nat.zero_le _, Nat.zero_le _⟩ d_LS_stored_63 (fun H locs w => ?_)
    exact rt_i hc w d_LS_stored_66 (by rw [← e0, f_LS_stored, if_pos q10_0] <;> rfl)
  · by_cases q10_1 : a1 = (41 : Int32)
    · refine lv_tableIn (tgt := 67) (off := 57) hx hb d_LS_stored_10 (by rw [q10_1]; decide) (by rw [q10_1]; decide) (by rw [q10_1]; rfl) (by decide) ?_
      refine lv_iload_n hx hb d_LS_stored_67 rfl (lv_at hl 2 rfl) ?_
      refine lv_iload_n hx hb d_LS_stored_68 rfl (lv_at hl 4 rfl) ?_
      refine lv_iload hx hb d_LS_stored_69 (lv_at hl 0 rfl) ?_
      refine lv_bipush (v := 8) hx hb d_LS_stored_71 (by decide) ?_
      refine lv_isub hx hb d_LS_stored_73 ?_
      refine lv_ishl hx hb d_LS_stored_74 ?_
      refine lv_ldc (v := 65535) hx hb ho (hT _ mw_823) d_LS_stored_75 ?_
      refine lv_iload hx hb d_LS_stored_77 (lv_at hl 0 rfl) ?_
      refine lv_bipush (v := 8) hx hb d_LS_stored_79 (by decide) ?_
      refine lv_isub hx hb d_LS_stored_81 ?_
      refine lv_ishl hx hb d_LS_stored_82 ?_
      refine rSI (rest := []) hc w (c_LS_merged l E ad σ a2 (a4 <<< ((((24 : Int32) - ((8 : Int32) * a3)) - (8 : Int32)) &&& 31)) ((65535 : Int32) <<< ((((24 : Int32) - ((8 : Int32) * a3)) - (8 : Int32)) &&& 31))) ks_LS_merged mw_820 ⟨Nat.le_of_ble_eq_true rfl, Nat.le_of_ble_eq_true rfl⟩ hl.1 rfl (Nat.le_of_ble_eq_true rfl) ⟨Nat.zero_le _, Nat.zero_le _⟩ d_LS_stored_83 (fun H locs w => ?_)
      exact rt_i hc w d_LS_stored_86 (by rw [← e0, f_LS_stored, if_neg q10_0, if_pos q10_1] <;> rfl)
    · by_cases q10_2 : a1 = (42 : Int32)
      · refine lv_tableIn (tgt := 87) (off := 77) hx hb d_LS_stored_10 (by rw [q10_2]; decide) (by rw [q10_2]; decide) (by rw [q10_2]; rfl) (by decide) ?_
        refine lv_iload_n hx hb d_LS_stored_87 rfl (lv_at hl 2 rfl) ?_
        refine lv_iload_n hx hb d_LS_stored_88 rfl (lv_at hl 4 rfl) ?_
        refine lv_bipush (v := 8) hx hb d_LS_stored_89 (by decide) ?_
        refine lv_iload_n hx hb d_LS_stored_91 rfl (lv_at hl 3 rfl) ?_
        refine lv_imul hx hb d_LS_stored_92 ?_
        refine lv_iushr hx hb d_LS_stored_93 rfl ?_
        refine lv_iconst (v := -1) hx hb d_LS_stored_94 (by decide) ?_
        refine lv_bipush (v := 8) hx hb d_LS_stored_95 (by decide) ?_
        refine lv_iload_n hx hb d_LS_stored_97 rfl (lv_at hl 3 rfl) ?_
        refine lv_imul hx hb d_LS_stored_98 ?_
        refine lv_iushr hx hb d_LS_stored_99 rfl ?_
        refine rSI (rest := []) hc w (c_LS_merged l E ad σ a2 ((Int32.toUInt32 a4 >>> (Int32.toUInt32 ((8 : Int32) * a3) &&& Int32.toUInt32 31)).toInt32) ((Int32.toUInt32 (-1 : Int32) >>> (Int32.toUInt32 ((8 : Int32) * a3) &&& Int32.toUInt32 31)).toInt32)) ks_LS_merged mw_820 ⟨Nat.le_of_ble_eq_true rfl, Nat.le_of_ble_eq_true rfl⟩ hl.1 rfl (Nat.le_of_ble_eq_true rfl) ⟨Nat.zero_le _, Nat.zero_le _⟩ d_LS_stored_100 (fun H locs w => ?_)
        exact rt_i hc w d_LS_stored_103 (by rw [← e0, f_LS_stored, if_neg q10_0, if_neg q10_1, if_pos q10_2] <;> rfl)
      · by_cases q10_3 : a1 = (43 : Int32)
        · refine lv_tableIn (tgt := 117) (off := 107) hx hb d_LS_stored_10 (by rw [q10_3]; decide) (by rw [q10_3]; decide) (by rw [q10_3]; rfl) (by decide) ?_
          refine lv_iload_n hx hb d_LS_stored_117 rfl (lv_at hl 4 rfl) ?_
          exact rt_i hc w d_LS_stored_118 (by rw [← e0, f_LS_stored, if_neg q10_0, if_neg q10_1, if_neg q10_2, if_pos q10_3] <;> rfl)
        · by_cases q10_4 : a1 = (44 : Int32)
          · refine lv_tableIn (tgt := 117) (off := 107) hx hb d_LS_stored_10 (by rw [q10_4]; decide) (by rw [q10_4]; decide) (by rw [q10_4]; rfl) (by decide) ?_
            refine lv_iload_n hx hb d_LS_stored_117 rfl (lv_at hl 4 rfl) ?_
            exact rt_i hc w d_LS_stored_118 (by rw [← e0, f_LS_stored, if_neg q10_0, if_neg q10_1, if_neg q10_2, if_neg q10_3, if_pos q10_4] <;> rfl)
          · by_cases q10_5 : a1 = (45 : Int32)
            · refine lv_tableIn (tgt := 117) (off := 107) hx hb d_LS_stored_10 (by rw [q10_5]; decide) (by rw [q10_5]; decide) (by rw [q10_5]; rfl) (by decide) ?_
              refine lv_iload_n hx hb d_LS_stored_117 rfl (lv_at hl 4 rfl) ?_
              exact rt_i hc w d_LS_stored_118 (by rw [← e0, f_LS_stored, if_neg q10_0, if_neg q10_1, if_neg q10_2, if_neg q10_3, if_neg q10_4, if_pos q10_5] <;> rfl)
            · by_cases q10_6 : a1 = (46 : Int32)
              · refine lv_tableIn (tgt := 104) (off := 94) hx hb d_LS_stored_10 (by rw [q10_6]; decide) (by rw [q10_6]; decide) (by rw [q10_6]; rfl) (by decide) ?_
                refine lv_iload_n hx hb d_LS_stored_104 rfl (lv_at hl 2 rfl) ?_
                refine lv_iload_n hx hb d_LS_stored_105 rfl (lv_at hl 4 rfl) ?_
                refine lv_iload hx hb d_LS_stored_106 (lv_at hl 0 rfl) ?_
                refine lv_ishl hx hb d_LS_stored_108 ?_
                refine lv_iconst (v := -1) hx hb d_LS_stored_109 (by decide) ?_
                refine lv_iload hx hb d_LS_stored_110 (lv_at hl 0 rfl) ?_
                refine lv_ishl hx hb d_LS_stored_112 ?_
                refine rSI (rest := []) hc w (c_LS_merged l E ad σ a2 (a4 <<< (((24 : Int32) - ((8 : Int32) * a3)) &&& 31)) ((-1 : Int32) <<< (((24 : Int32) - ((8 : Int32) * a3)) &&& 31))) ks_LS_merged mw_820 ⟨Nat.le_of_ble_eq_true rfl, Nat.le_of_ble_eq_true rfl⟩ hl.1 rfl (Nat.le_of_ble_eq_true rfl) ⟨Nat.zero_le _, Nat.zero_le _⟩ d_LS_stored_113 (fun H locs w => ?_)
                exact rt_i hc w d_LS_stored_116 (by rw [← e0, f_LS_stored, if_neg q10_0, if_neg q10_1, if_neg q10_2, if_neg q10_3, if_neg q10_4, if_neg q10_5, if_pos q10_6] <;> rfl)
              · refine lv_tableOut (tgt := 117) hx hb d_LS_stored_10 (by have k0 := ne_k q10_0 (n := 40) (by decide); have k1 := ne_k q10_1 (n := 41) (by decide); have k2 := ne_k q10_2 (n := 42) (by decide); have k3 := ne_k q10_3 (n := 43) (by decide); have k4 := ne_k q10_4 (n := 44) (by decide); have k5 := ne_k q10_5 (n := 45) (by decide); have k6 := ne_k q10_6 (n := 46) (by decide); omega) (by decide) ?_
                refine lv_iload_n hx hb d_LS_stored_117 rfl (lv_at hl 4 rfl) ?_
                exact rt_i hc w d_LS_stored_118 (by rw [← e0, f_LS_stored, if_neg q10_0, if_neg q10_1, if_neg q10_2, if_neg q10_3, if_neg q10_4, if_neg q10_5, if_neg q10_6] <;> rfl)
-- LS_endLink
def f_LS_endLink_c2 (z28 : XS × Int32)   : XS × Int32 := (z28.1, z28.2)
def f_LS_endLink_c1 (σ13 : XS)  (u1_1 : Int32) : XS × Int32 := f_LS_endLink_c2 (f_CO_put σ13 (f_CO_rt σ13) u1_1)  
def f_LS_endLink (σ : XS) : XS × Int32 := f_LS_endLink_c1 (xs_link σ (0 : Int32))  (x_link σ)
theorem d_LS_endLink_0 : decode b_LS_endLink 0 = .ok (.aload_n 0, 1) := by decide +kernel
theorem d_LS_endLink_1 : decode b_LS_endLink 1 = .ok (.getfield 7, 3) := by decide +kernel
theorem d_LS_endLink_4 : decode b_LS_endLink 4 = .ok (.getfield 44, 3) := by decide +kernel
theorem d_LS_endLink_7 : decode b_LS_endLink 7 = .ok (.istore_n 1, 1) := by decide +kernel
theorem d_LS_endLink_8 : decode b_LS_endLink 8 = .ok (.aload_n 0, 1) := by decide +kernel
theorem d_LS_endLink_9 : decode b_LS_endLink 9 = .ok (.getfield 7, 3) := by decide +kernel
theorem d_LS_endLink_12 : decode b_LS_endLink 12 = .ok (.iconst 0, 1) := by decide +kernel
theorem d_LS_endLink_13 : decode b_LS_endLink 13 = .ok (.putfield 44, 3) := by decide +kernel
theorem d_LS_endLink_16 : decode b_LS_endLink 16 = .ok (.aload_n 0, 1) := by decide +kernel
theorem d_LS_endLink_17 : decode b_LS_endLink 17 = .ok (.getfield 7, 3) := by decide +kernel
theorem d_LS_endLink_20 : decode b_LS_endLink 20 = .ok (.aload_n 0, 1) := by decide +kernel
theorem d_LS_endLink_21 : decode b_LS_endLink 21 = .ok (.getfield 7, 3) := by decide +kernel
theorem d_LS_endLink_24 : decode b_LS_endLink 24 = .ok (.invokevirtual 48, 3) := by decide +kernel
theorem d_LS_endLink_27 : decode b_LS_endLink 27 = .ok (.iload_n 1, 1) := by decide +kernel
theorem d_LS_endLink_28 : decode b_LS_endLink 28 = .ok (.invokevirtual 63, 3) := by decide +kernel
theorem d_LS_endLink_31 : decode b_LS_endLink 31 = .ok (.ireturn, 1) := by decide +kernel
set_option maxHeartbeats 4000000 in
set_option maxRecDepth 100000 in
theorem c_LS_endLink (l : Launch) (E : Ev) (ad : Nat → Nat) (σ : XS) : rC xCl l E (xW E ad) y_LS_endLink b_LS_endLink 2 (Option.some Jvm.ClassFile.FieldType.int) (rmo 1 22) [.ref (ad 9)] σ (zI (f_LS_endLink σ)) := by
  refine rC.of (by decide) (Nat.le_of_ble_eq_true rfl) ?_
  intro p e s m below meth c A ls hc w hl
  generalize e0 : zI (f_LS_endLink σ) = Z
  have hc : Cx xCl E A p s m ([.ref (ad 9)] : List Value).toArray meth c b_LS_endLink 2 (Option.some Jvm.ClassFile.FieldType.int) "PageMachine$LoadsAndStores" := hc
  have hx := hc.1
  have hb := hc.2.1
  have ho := hc.2.2.2.2.2.1
  have hT := hc.2.2.2.2.2.2.1
  have hl : lv_has ls 2 [(0, .ref (ad 9))] := hl
  refine lv_aload_n hx hb d_LS_endLink_0 rfl (lv_at hl 0 rfl) ?_
  refine g_LS_core hc w mw_181 d_LS_endLink_1 ?_
  refine g_CO_link hc w mw_115 d_LS_endLink_4 ?_
  refine lv_istore_n (lv' := [(1, .int (x_link σ)), (0, .ref (ad 9))]) hx hb d_LS_endLink_7 rfl hl (by decide) rfl (fun ls hl => ?_)
  refine lv_aload_n hx hb d_LS_endLink_8 rfl (lv_at hl 1 rfl) ?_
  refine g_LS_core hc w mw_181 d_LS_endLink_9 ?_
  refine lv_iconst (v := 0) hx hb d_LS_endLink_12 (by decide) ?_
  refine p_CO_link hc w mw_115 d_LS_endLink_13 (fun σ13 H locs hs13 w => ?_)
  generalize hv_u1_1 : x_link σ = u1_1 at hl ⊢
  have e_c1 : zI (f_LS_endLink_c1 σ13  u1_1) = Z := by rw [← e0, f_LS_endLink, hs13, hv_u1_1]
  refine lv_aload_n hx hb d_LS_endLink_16 rfl (lv_at hl 1 rfl) ?_
  refine g_LS_core hc w mw_181 d_LS_endLink_17 ?_
  refine lv_aload_n hx hb d_LS_endLink_20 rfl (lv_at hl 1 rfl) ?_
  refine g_LS_core hc w mw_181 d_LS_endLink_21 ?_
  refine rVI (rest := [.ref (ad 5)]) hc w (c_CO_rt l E ad σ13) kv_CO_rt mw_806 5 rfl rfl ⟨Nat.le_of_ble_eq_true rfl, Nat.le_of_ble_eq_true rfl⟩ hl.1 rfl (Nat.le_of_ble_eq_true rfl) ⟨Nat.zero_le _, Nat.zero_le _⟩ d_LS_endLink_24 (fun H locs w => ?_)
  refine lv_iload_n hx hb d_LS_endLink_27 rfl (lv_at hl 0 rfl) ?_
  refine cVI (rest := []) hc w (c_CO_put l E ad σ13 (f_CO_rt σ13) u1_1) kv_CO_put mw_812 5 rfl rfl ⟨Nat.le_of_ble_eq_true rfl, Nat.le_of_ble_eq_true rfl⟩ hl.1 rfl (Nat.le_of_ble_eq_true rfl) ⟨Nat.zero_le _, Nat.zero_le _⟩ d_LS_endLink_28 (fun z28 H locs hs28 w => ?_)
  have e_c2 : zI (f_LS_endLink_c2 z28  ) = Z := by rw [← e_c1, f_LS_endLink_c1, hs28]
  exact rt_i hc w d_LS_endLink_31 (by rw [← e_c2, f_LS_endLink_c2] <;> rfl)
-- LS_load
def f_LS_load_c3 (z89 : XS × Int32)   : XS × Int32 := (z89.1, z89.2)
def f_LS_load_54 (σ54 : XS) (v54_4 : Int32) (v54_1 : Int32) : XS × Int32 := f_LS_load_c3 (f_CO_put σ54 (f_CO_rt σ54) (f_LS_loaded σ54 v54_1 (f_ME_wordAt σ54 v54_4) (v54_4 &&& (3 : Int32)) (f_CO_t σ54)))  
def f_LS_load_c2 (σ51 : XS)  (u2_4 : Int32) (u1_1 : Int32) : XS × Int32 := f_LS_load_54 σ51 u2_4 u1_1
def f_LS_load_c1 (z21 : XS × Int64)  (u1_1 : Int32) : XS × Int32 := if 0 ≤ (lg_cmp z21.2 (0 : Int64)) then (if u1_1 = (48 : Int32) then (f_LS_load_c2 (xs_link z21.1 (1 : Int32))  (Int64.toInt32 z21.2) u1_1) else (f_LS_load_54 z21.1 (Int64.toInt32 z21.2) u1_1)) else ((z21.1, f_AS_faultIn z21.1 z21.2))
def f_LS_load (σ : XS) : XS × Int32 := f_LS_load_c1 (f_AS_locateAligned σ (f_LS_address σ) (0 : Int32) (f_LS_alignmentOf σ (f_CO_op σ)))  (f_CO_op σ)
theorem d_LS_load_0 : decode b_LS_load 0 = .ok (.aload_n 0, 1) := by decide +kernel
theorem d_LS_load_1 : decode b_LS_load 1 = .ok (.getfield 7, 3) := by decide +kernel
theorem d_LS_load_4 : decode b_LS_load 4 = .ok (.invokevirtual 21, 3) := by decide +kernel
theorem d_LS_load_7 : decode b_LS_load 7 = .ok (.istore_n 1, 1) := by decide +kernel
theorem d_LS_load_8 : decode b_LS_load 8 = .ok (.aload_n 0, 1) := by decide +kernel
theorem d_LS_load_9 : decode b_LS_load 9 = .ok (.getfield 17, 3) := by decide +kernel
theorem d_LS_load_12 : decode b_LS_load 12 = .ok (.aload_n 0, 1) := by decide +kernel
theorem d_LS_load_13 : decode b_LS_load 13 = .ok (.invokevirtual 27, 3) := by decide +kernel
theorem d_LS_load_16 : decode b_LS_load 16 = .ok (.iconst 0, 1) := by decide +kernel
theorem d_LS_load_17 : decode b_LS_load 17 = .ok (.iload_n 1, 1) := by decide +kernel
theorem d_LS_load_18 : decode b_LS_load 18 = .ok (.invokestatic 32, 3) := by decide +kernel
theorem d_LS_load_21 : decode b_LS_load 21 = .ok (.invokevirtual 36, 3) := by decide +kernel
theorem d_LS_load_24 : decode b_LS_load 24 = .ok (.lstore_n 2, 1) := by decide +kernel
theorem d_LS_load_25 : decode b_LS_load 25 = .ok (.lload_n 2, 1) := by decide +kernel
theorem d_LS_load_26 : decode b_LS_load 26 = .ok (.lconst 0, 1) := by decide +kernel
theorem d_LS_load_27 : decode b_LS_load 27 = .ok (.lcmp, 1) := by decide +kernel
theorem d_LS_load_28 : decode b_LS_load 28 = .ok (.ifCond .ge 8, 3) := by decide +kernel
theorem d_LS_load_31 : decode b_LS_load 31 = .ok (.lload_n 2, 1) := by decide +kernel
theorem d_LS_load_32 : decode b_LS_load 32 = .ok (.invokestatic 40, 3) := by decide +kernel
theorem d_LS_load_35 : decode b_LS_load 35 = .ok (.ireturn, 1) := by decide +kernel
theorem d_LS_load_36 : decode b_LS_load 36 = .ok (.lload_n 2, 1) := by decide +kernel
theorem d_LS_load_37 : decode b_LS_load 37 = .ok (.l2i, 1) := by decide +kernel
theorem d_LS_load_38 : decode b_LS_load 38 = .ok (.istore 4, 2) := by decide +kernel
theorem d_LS_load_40 : decode b_LS_load 40 = .ok (.iload_n 1, 1) := by decide +kernel
theorem d_LS_load_41 : decode b_LS_load 41 = .ok (.bipush 48, 2) := by decide +kernel
theorem d_LS_load_43 : decode b_LS_load 43 = .ok (.if_icmp .ne 11, 3) := by decide +kernel
theorem d_LS_load_46 : decode b_LS_load 46 = .ok (.aload_n 0, 1) := by decide +kernel
theorem d_LS_load_47 : decode b_LS_load 47 = .ok (.getfield 7, 3) := by decide +kernel
theorem d_LS_load_50 : decode b_LS_load 50 = .ok (.iconst 1, 1) := by decide +kernel
theorem d_LS_load_51 : decode b_LS_load 51 = .ok (.putfield 44, 3) := by decide +kernel
theorem d_LS_load_54 : decode b_LS_load 54 = .ok (.aload_n 0, 1) := by decide +kernel
theorem d_LS_load_55 : decode b_LS_load 55 = .ok (.getfield 7, 3) := by decide +kernel
theorem d_LS_load_58 : decode b_LS_load 58 = .ok (.aload_n 0, 1) := by decide +kernel
theorem d_LS_load_59 : decode b_LS_load 59 = .ok (.getfield 7, 3) := by decide +kernel
theorem d_LS_load_62 : decode b_LS_load 62 = .ok (.invokevirtual 48, 3) := by decide +kernel
theorem d_LS_load_65 : decode b_LS_load 65 = .ok (.iload_n 1, 1) := by decide +kernel
theorem d_LS_load_66 : decode b_LS_load 66 = .ok (.aload_n 0, 1) := by decide +kernel
theorem d_LS_load_67 : decode b_LS_load 67 = .ok (.getfield 13, 3) := by decide +kernel
theorem d_LS_load_70 : decode b_LS_load 70 = .ok (.iload 4, 2) := by decide +kernel
theorem d_LS_load_72 : decode b_LS_load 72 = .ok (.invokevirtual 51, 3) := by decide +kernel
theorem d_LS_load_75 : decode b_LS_load 75 = .ok (.iload 4, 2) := by decide +kernel
theorem d_LS_load_77 : decode b_LS_load 77 = .ok (.iconst 3, 1) := by decide +kernel
theorem d_LS_load_78 : decode b_LS_load 78 = .ok (.iand, 1) := by decide +kernel
theorem d_LS_load_79 : decode b_LS_load 79 = .ok (.aload_n 0, 1) := by decide +kernel
theorem d_LS_load_80 : decode b_LS_load 80 = .ok (.getfield 7, 3) := by decide +kernel
theorem d_LS_load_83 : decode b_LS_load 83 = .ok (.invokevirtual 56, 3) := by decide +kernel
theorem d_LS_load_86 : decode b_LS_load 86 = .ok (.invokestatic 59, 3) := by decide +kernel
theorem d_LS_load_89 : decode b_LS_load 89 = .ok (.invokevirtual 63, 3) := by decide +kernel
theorem d_LS_load_92 : decode b_LS_load 92 = .ok (.ireturn, 1) := by decide +kernel
set_option maxHeartbeats 4000000 in
set_option maxRecDepth 100000 in
theorem c_LS_load (l : Launch) (E : Ev) (ad : Nat → Nat) (σ : XS) : rC xCl l E (xW E ad) y_LS_load b_LS_load 5 (Option.some Jvm.ClassFile.FieldType.int) (rmo 4 98) [.ref (ad 9)] σ (zI (f_LS_load σ)) := by
  refine rC.of (by decide) (Nat.le_of_ble_eq_true rfl) ?_
  intro p e s m below meth c A ls hc w hl
  generalize e0 : zI (f_LS_load σ) = Z
  have hc : Cx xCl E A p s m ([.ref (ad 9)] : List Value).toArray meth c b_LS_load 5 (Option.some Jvm.ClassFile.FieldType.int) "PageMachine$LoadsAndStores" := hc
  have hx := hc.1
  have hb := hc.2.1
  have ho := hc.2.2.2.2.2.1
  have hT := hc.2.2.2.2.2.2.1
  have hl : lv_has ls 5 [(0, .ref (ad 9))] := hl
  have J54 : ∀ (σ54 : XS) (v54_4 : Int32) (v54_1 : Int32) (H : Heap) (locs : List Loc) (ls : Array Slot), Wd xCl E A s.heap H locs (xW E ad σ54) → lv_has ls 5 [(4, .int v54_4), (1, .int v54_1), (0, .ref (ad 9))] → zI (f_LS_load_54 σ54 v54_4 v54_1) = Z → W p l e (rmo 4 98) s m ([.ref (ad 9)] : List Value).toArray below meth c H locs 0 0 (MQ below (rQ xCl (xW E ad) E A Z) ([.ref (ad 9)] : List Value).toArray s 0 0 A) (F0 m 54 ls []) := by
    intro σ54 v54_4 v54_1 H locs ls w hl e54
    refine lv_aload_n hx hb d_LS_load_54 rfl (lv_at hl 2 rfl) ?_
    refine g_LS_core hc w mw_181 d_LS_load_55 ?_
    refine lv_aload_n hx hb d_LS_load_58 rfl (lv_at hl 2 rfl) ?_
    refine g_LS_core hc w mw_181 d_LS_load_59 ?_
    refine rVI (rest := [.ref (ad 5)]) hc w (c_CO_rt l E ad σ54) kv_CO_rt mw_806 5 rfl rfl ⟨Nat.le_of_ble_eq_true rfl, Nat.le_of_ble_eq_true rfl⟩ hl.1 rfl (Nat.le_of_ble_eq_true rfl) ⟨Nat.zero_le _, Nat.zero_le _⟩ d_LS_load_62 (fun H locs w => ?_)
    refine lv_iload_n hx hb d_LS_load_65 rfl (lv_at hl 1 rfl) ?_
    refine lv_aload_n hx hb d_LS_load_66 rfl (lv_at hl 2 rfl) ?_
    refine g_LS_memory hc w mw_182 d_LS_load_67 ?_
    refine lv_iload hx hb d_LS_load_70 (lv_at hl 0 rfl) ?_
    refine rVI (rest := [.int v54_1, .int (f_CO_rt σ54), .ref (ad 5)]) hc w (c_ME_wordAt l E ad σ54 v54_4) kv_ME_wordAt mw_807 1 rfl rfl ⟨Nat.le_of_ble_eq_true rfl, Nat.le_of_ble_eq_true rfl⟩ hl.1 rfl (Nat.le_of_ble_eq_true rfl) ⟨Nat.zero_le _, Nat.zero_le _⟩ d_LS_load_72 (fun H locs w => ?_)
    refine lv_iload hx hb d_LS_load_75 (lv_at hl 0 rfl) ?_
    refine lv_iconst (v := 3) hx hb d_LS_load_77 (by decide) ?_
    refine lv_iand hx hb d_LS_load_78 ?_
    refine lv_aload_n hx hb d_LS_load_79 rfl (lv_at hl 2 rfl) ?_
    refine g_LS_core hc w mw_181 d_LS_load_80 ?_
    refine rVI (rest := [.int (v54_4 &&& (3 : Int32)), .int (f_ME_wordAt σ54 v54_4), .int v54_1, .int (f_CO_rt σ54), .ref (ad 5)]) hc w (c_CO_t l E ad σ54) kv_CO_t mw_808 5 rfl rfl ⟨Nat.le_of_ble_eq_true rfl, Nat.le_of_ble_eq_true rfl⟩ hl.1 rfl (Nat.le_of_ble_eq_true rfl) ⟨Nat.zero_le _, Nat.zero_le _⟩ d_LS_load_83 (fun H locs w => ?_)
    refine rSI (rest := [.int (f_CO_rt σ54), .ref (ad 5)]) hc w (c_LS_loaded l E ad σ54 v54_1 (f_ME_wordAt σ54 v54_4) (v54_4 &&& (3 : Int32)) (f_CO_t σ54)) ks_LS_loaded mw_809 ⟨Nat.le_of_ble_eq_true rfl, Nat.le_of_ble_eq_true rfl⟩ hl.1 rfl (Nat.le_of_ble_eq_true rfl) ⟨Nat.zero_le _, Nat.zero_le _⟩ d_LS_load_86 (fun H locs w => ?_)
    refine cVI (rest := []) hc w (c_CO_put l E ad σ54 (f_CO_rt σ54) (f_LS_loaded σ54 v54_1 (f_ME_wordAt σ54 v54_4) (v54_4 &&& (3 : Int32)) (f_CO_t σ54))) kv_CO_put mw_812 5 rfl rfl ⟨Nat.le_of_ble_eq_true rfl, Nat.le_of_ble_eq_true rfl⟩ hl.1 rfl (Nat.le_of_ble_eq_true rfl) ⟨Nat.zero_le _, Nat.zero_le _⟩ d_LS_load_89 (fun z89 H locs hs89 w => ?_)
    have e_c3 : zI (f_LS_load_c3 z89  ) = Z := by rw [← e54, f_LS_load_54, hs89]
    exact rt_i hc w d_LS_load_92 (by rw [← e_c3, f_LS_load_c3] <;> rfl)
  refine lv_aload_n hx hb d_LS_load_0 rfl (lv_at hl 0 rfl) ?_
  refine g_LS_core hc w mw_181 d_LS_load_1 ?_
  refine rVI (rest := []) hc w (c_CO_op l E ad σ) kv_CO_op mw_794 5 rfl rfl ⟨Nat.le_of_ble_eq_true rfl, Nat.le_of_ble_eq_true rfl⟩ hl.1 rfl (Nat.le_of_ble_eq_true rfl) ⟨Nat.zero_le _, Nat.zero_le _⟩ d_LS_load_4 (fun H locs w => ?_)
  refine lv_istore_n (lv' := [(1, .int (f_CO_op σ)), (0, .ref (ad 9))]) hx hb d_LS_load_7 rfl hl (by decide) rfl (fun ls hl => ?_)
  refine lv_aload_n hx hb d_LS_load_8 rfl (lv_at hl 1 rfl) ?_
  refine g_LS_space hc w mw_183 d_LS_load_9 ?_
  refine lv_aload_n hx hb d_LS_load_12 rfl (lv_at hl 1 rfl) ?_
  refine rVI (rest := [.ref (ad 4)]) hc w (c_LS_address l E ad σ) kv_LS_address mw_795 9 rfl rfl ⟨Nat.le_of_ble_eq_true rfl, Nat.le_of_ble_eq_true rfl⟩ hl.1 rfl (Nat.le_of_ble_eq_true rfl) ⟨Nat.zero_le _, Nat.zero_le _⟩ d_LS_load_13 (fun H locs w => ?_)
  refine lv_iconst (v := 0) hx hb d_LS_load_16 (by decide) ?_
  refine lv_iload_n hx hb d_LS_load_17 rfl (lv_at hl 0 rfl) ?_
  refine rSI (rest := [.int (0 : Int32), .int (f_LS_address σ), .ref (ad 4)]) hc w (c_LS_alignmentOf l E ad σ (f_CO_op σ)) ks_LS_alignmentOf mw_801 ⟨Nat.le_of_ble_eq_true rfl, Nat.le_of_ble_eq_true rfl⟩ hl.1 rfl (Nat.le_of_ble_eq_true rfl) ⟨Nat.zero_le _, Nat.zero_le _⟩ d_LS_load_18 (fun H locs w => ?_)
  refine cVL (rest := []) hc w (c_AS_locateAligned l E ad σ (f_LS_address σ) (0 : Int32) (f_LS_alignmentOf σ (f_CO_op σ))) kv_AS_locateAligned mw_804 4 rfl rfl ⟨Nat.le_of_ble_eq_true rfl, Nat.le_of_ble_eq_true rfl⟩ hl.1 rfl (Nat.le_of_ble_eq_true rfl) ⟨Nat.zero_le _, Nat.zero_le _⟩ d_LS_load_21 (fun z21 H locs hs21 w => ?_)
  generalize hv_u1_1 : f_CO_op σ = u1_1 at hl ⊢
  have e_c1 : zI (f_LS_load_c1 z21  u1_1) = Z := by rw [← e0, f_LS_load, hs21, hv_u1_1]
  refine lv_lstore_n (lv' := [(2, .long z21.2), (1, .int u1_1), (0, .ref (ad 9))]) hx hb d_LS_load_24 rfl hl (by decide) rfl (fun ls hl => ?_)
  refine lv_lload_n hx hb d_LS_load_25 rfl (lv_at hl 0 rfl) ?_
  refine lv_lconst (v := 0) hx hb d_LS_load_26 (by decide) ?_
  refine W.lcmp hx hb d_LS_load_27 ?_
  refine lv_if_ge (tgt := 36) hx hb d_LS_load_28 (by decide) (fun q28 => ?_) (fun q28 => ?_)
  · refine lv_lload_n hx hb d_LS_load_36 rfl (lv_at hl 0 rfl) ?_
    refine lv_l2i hx hb d_LS_load_37 rfl ?_
    refine lv_istore (lv' := [(4, .int (Int64.toInt32 z21.2)), (2, .long z21.2), (1, .int u1_1), (0, .ref (ad 9))]) hx hb d_LS_load_38 hl (by decide) rfl (fun ls hl => ?_)
    refine lv_iload_n hx hb d_LS_load_40 rfl (lv_at hl 2 rfl) ?_
    refine lv_bipush (v := 48) hx hb d_LS_load_41 (by decide) ?_
    refine lv_icmp_ne (tgt := 54) hx hb d_LS_load_43 (by decide) (fun q43 => ?_) (fun q43 => ?_)
    · exact J54 z21.1 (Int64.toInt32 z21.2) u1_1 _ _ _ w (lv_sub hl [0, 2, 3] rfl) (by rw [← e_c1, f_LS_load_c1, if_pos q28, if_neg q43])
    · refine lv_aload_n hx hb d_LS_load_46 rfl (lv_at hl 3 rfl) ?_
      refine g_LS_core hc w mw_181 d_LS_load_47 ?_
      refine lv_iconst (v := 1) hx hb d_LS_load_50 (by decide) ?_
      refine p_CO_link hc w mw_115 d_LS_load_51 (fun σ51 H locs hs51 w => ?_)
      generalize hv_u2_4 : Int64.toInt32 z21.2 = u2_4 at hl ⊢
      have e_c2 : zI (f_LS_load_c2 σ51  u2_4 u1_1) = Z := by rw [← e_c1, f_LS_load_c1, if_pos q28, if_pos q43, hs51, hv_u2_4]
      exact J54 σ51 u2_4 u1_1 _ _ _ w (lv_sub hl [0, 2, 3] rfl) (by rw [← e_c2, f_LS_load_c2])
  · refine lv_lload_n hx hb d_LS_load_31 rfl (lv_at hl 0 rfl) ?_
    refine rSI (rest := []) hc w (c_AS_faultIn l E ad z21.1 z21.2) ks_AS_faultIn mw_805 ⟨Nat.le_of_ble_eq_true rfl, Nat.le_of_ble_eq_true rfl⟩ hl.1 rfl (Nat.le_of_ble_eq_true rfl) ⟨Nat.zero_le _, Nat.zero_le _⟩ d_LS_load_32 (fun H locs w => ?_)
    exact rt_i hc w d_LS_load_35 (by rw [← e_c1, f_LS_load_c1, if_neg q28] <;> rfl)
-- LS_store
def f_LS_store_c3 (z97 : XS × Int32)   : XS × Int32 := (z97.1, z97.2)
def f_LS_store_90 (σ90 : XS) (v90_1 : Int32) : XS × Int32 := if v90_1 = (56 : Int32) then (f_LS_store_c3 (f_LS_endLink σ90)  ) else ((σ90, (-1 : Int32)))
def f_LS_store_c2 (z87 : XS)  (v57_1 : Int32) : XS × Int32 := f_LS_store_90 z87 v57_1
def f_LS_store_57 (σ57 : XS) (v57_4 : Int32) (v57_1 : Int32) : XS × Int32 := f_LS_store_c2 (f_ME_putWord σ57 v57_4 (f_LS_stored σ57 v57_1 (f_ME_wordAt σ57 v57_4) (v57_4 &&& (3 : Int32)) (f_CO_t σ57)))  v57_1
def f_LS_store_c1 (z21 : XS × Int64)  (u1_1 : Int32) : XS × Int32 := if 0 ≤ (lg_cmp z21.2 (0 : Int64)) then (if u1_1 = (56 : Int32) then (if (x_link z21.1) = (1 : Int32) then (f_LS_store_57 z21.1 (Int64.toInt32 z21.2) u1_1) else (f_LS_store_90 z21.1 u1_1)) else (f_LS_store_57 z21.1 (Int64.toInt32 z21.2) u1_1)) else ((z21.1, f_AS_faultIn z21.1 z21.2))
def f_LS_store (σ : XS) : XS × Int32 := f_LS_store_c1 (f_AS_locateAligned σ (f_LS_address σ) (1 : Int32) (f_LS_alignmentOf σ (f_CO_op σ)))  (f_CO_op σ)
theorem d_LS_store_0 : decode b_LS_store 0 = .ok (.aload_n 0, 1) := by decide +kernel
theorem d_LS_store_1 : decode b_LS_store 1 = .ok (.getfield 7, 3) := by decide +kernel
theorem d_LS_store_4 : decode b_LS_store 4 = .ok (.invokevirtual 21, 3) := by decide +kernel
theorem d_LS_store_7 : decode b_LS_store 7 = .ok (.istore_n 1, 1) := by decide +kernel
theorem d_LS_store_8 : decode b_LS_store 8 = .ok (.aload_n 0, 1) := by decide +kernel
theorem d_LS_store_9 : decode b_LS_store 9 = .ok (.getfield 17, 3) := by decide +kernel
theorem d_LS_store_12 : decode b_LS_store 12 = .ok (.aload_n 0, 1) := by decide +kernel
theorem d_LS_store_13 : decode b_LS_store 13 = .ok (.invokevirtual 27, 3) := by decide +kernel
theorem d_LS_store_16 : decode b_LS_store 16 = .ok (.iconst 1, 1) := by decide +kernel
theorem d_LS_store_17 : decode b_LS_store 17 = .ok (.iload_n 1, 1) := by decide +kernel
theorem d_LS_store_18 : decode b_LS_store 18 = .ok (.invokestatic 32, 3) := by decide +kernel
theorem d_LS_store_21 : decode b_LS_store 21 = .ok (.invokevirtual 36, 3) := by decide +kernel
theorem d_LS_store_24 : decode b_LS_store 24 = .ok (.lstore_n 2, 1) := by decide +kernel
theorem d_LS_store_25 : decode b_LS_store 25 = .ok (.lload_n 2, 1) := by decide +kernel
theorem d_LS_store_26 : decode b_LS_store 26 = .ok (.lconst 0, 1) := by decide +kernel
theorem d_LS_store_27 : decode b_LS_store 27 = .ok (.lcmp, 1) := by decide +kernel
theorem d_LS_store_28 : decode b_LS_store 28 = .ok (.ifCond .ge 8, 3) := by decide +kernel
theorem d_LS_store_31 : decode b_LS_store 31 = .ok (.lload_n 2, 1) := by decide +kernel
theorem d_LS_store_32 : decode b_LS_store 32 = .ok (.invokestatic 40, 3) := by decide +kernel
theorem d_LS_store_35 : decode b_LS_store 35 = .ok (.ireturn, 1) := by decide +kernel
theorem d_LS_store_36 : decode b_LS_store 36 = .ok (.lload_n 2, 1) := by decide +kernel
theorem d_LS_store_37 : decode b_LS_store 37 = .ok (.l2i, 1) := by decide +kernel
theorem d_LS_store_38 : decode b_LS_store 38 = .ok (.istore 4, 2) := by decide +kernel
theorem d_LS_store_40 : decode b_LS_store 40 = .ok (.iload_n 1, 1) := by decide +kernel
theorem d_LS_store_41 : decode b_LS_store 41 = .ok (.bipush 56, 2) := by decide +kernel
theorem d_LS_store_43 : decode b_LS_store 43 = .ok (.if_icmp .ne 14, 3) := by decide +kernel
theorem d_LS_store_46 : decode b_LS_store 46 = .ok (.aload_n 0, 1) := by decide +kernel
theorem d_LS_store_47 : decode b_LS_store 47 = .ok (.getfield 7, 3) := by decide +kernel
theorem d_LS_store_50 : decode b_LS_store 50 = .ok (.getfield 44, 3) := by decide +kernel
theorem d_LS_store_53 : decode b_LS_store 53 = .ok (.iconst 1, 1) := by decide +kernel
theorem d_LS_store_54 : decode b_LS_store 54 = .ok (.if_icmp .ne 36, 3) := by decide +kernel
theorem d_LS_store_57 : decode b_LS_store 57 = .ok (.aload_n 0, 1) := by decide +kernel
theorem d_LS_store_58 : decode b_LS_store 58 = .ok (.getfield 13, 3) := by decide +kernel
theorem d_LS_store_61 : decode b_LS_store 61 = .ok (.iload 4, 2) := by decide +kernel
theorem d_LS_store_63 : decode b_LS_store 63 = .ok (.iload_n 1, 1) := by decide +kernel
theorem d_LS_store_64 : decode b_LS_store 64 = .ok (.aload_n 0, 1) := by decide +kernel
theorem d_LS_store_65 : decode b_LS_store 65 = .ok (.getfield 13, 3) := by decide +kernel
theorem d_LS_store_68 : decode b_LS_store 68 = .ok (.iload 4, 2) := by decide +kernel
theorem d_LS_store_70 : decode b_LS_store 70 = .ok (.invokevirtual 51, 3) := by decide +kernel
theorem d_LS_store_73 : decode b_LS_store 73 = .ok (.iload 4, 2) := by decide +kernel
theorem d_LS_store_75 : decode b_LS_store 75 = .ok (.iconst 3, 1) := by decide +kernel
theorem d_LS_store_76 : decode b_LS_store 76 = .ok (.iand, 1) := by decide +kernel
theorem d_LS_store_77 : decode b_LS_store 77 = .ok (.aload_n 0, 1) := by decide +kernel
theorem d_LS_store_78 : decode b_LS_store 78 = .ok (.getfield 7, 3) := by decide +kernel
theorem d_LS_store_81 : decode b_LS_store 81 = .ok (.invokevirtual 56, 3) := by decide +kernel
theorem d_LS_store_84 : decode b_LS_store 84 = .ok (.invokestatic 67, 3) := by decide +kernel
theorem d_LS_store_87 : decode b_LS_store 87 = .ok (.invokevirtual 70, 3) := by decide +kernel
theorem d_LS_store_90 : decode b_LS_store 90 = .ok (.iload_n 1, 1) := by decide +kernel
theorem d_LS_store_91 : decode b_LS_store 91 = .ok (.bipush 56, 2) := by decide +kernel
theorem d_LS_store_93 : decode b_LS_store 93 = .ok (.if_icmp .ne 10, 3) := by decide +kernel
theorem d_LS_store_96 : decode b_LS_store 96 = .ok (.aload_n 0, 1) := by decide +kernel
theorem d_LS_store_97 : decode b_LS_store 97 = .ok (.invokevirtual 74, 3) := by decide +kernel
theorem d_LS_store_100 : decode b_LS_store 100 = .ok (.goto 4, 3) := by decide +kernel
theorem d_LS_store_103 : decode b_LS_store 103 = .ok (.iconst (-1), 1) := by decide +kernel
theorem d_LS_store_104 : decode b_LS_store 104 = .ok (.ireturn, 1) := by decide +kernel
set_option maxHeartbeats 4000000 in
set_option maxRecDepth 100000 in
theorem c_LS_store (l : Launch) (E : Ev) (ad : Nat → Nat) (σ : XS) : rC xCl l E (xW E ad) y_LS_store b_LS_store 5 (Option.some Jvm.ClassFile.FieldType.int) (rmo 4 98) [.ref (ad 9)] σ (zI (f_LS_store σ)) := by
  refine rC.of (by decide) (Nat.le_of_ble_eq_true rfl) ?_
  intro p e s m below meth c A ls hc w hl
  generalize e0 : zI (f_LS_store σ) = Z
  have hc : Cx xCl E A p s m ([.ref (ad 9)] : List Value).toArray meth c b_LS_store 5 (Option.some Jvm.ClassFile.FieldType.int) "PageMachine$LoadsAndStores" := hc
  have hx := hc.1
  have hb := hc.2.1
  have ho := hc.2.2.2.2.2.1
  have hT := hc.2.2.2.2.2.2.1
  have hl : lv_has ls 5 [(0, .ref (ad 9))] := hl
  have J90 : ∀ (σ90 : XS) (v90_1 : Int32) (H : Heap) (locs : List Loc) (ls : Array Slot), Wd xCl E A s.heap H locs (xW E ad σ90) → lv_has ls 5 [(1, .int v90_1), (0, .ref (ad 9))] → zI (f_LS_store_90 σ90 v90_1) = Z → W p l e (rmo 4 98) s m ([.ref (ad 9)] : List Value).toArray below meth c H locs 0 0 (MQ below (rQ xCl (xW E ad) E A Z) ([.ref (ad 9)] : List Value).toArray s 0 0 A) (F0 m 90 ls []) := by
    intro σ90 v90_1 H locs ls w hl e90
    refine lv_iload_n hx hb d_LS_store_90 rfl (lv_at hl 0 rfl) ?_
    refine lv_bipush (v := 56) hx hb d_LS_store_91 (by decide) ?_
    refine lv_icmp_ne (tgt := 103) hx hb d_LS_store_93 (by decide) (fun q93 => ?_) (fun q93 => ?_)
    · refine lv_iconst (v := -1) hx hb d_LS_store_103 (by decide) ?_
      exact rt_i hc w d_LS_store_104 (by rw [← e90, f_LS_store_90, if_neg q93] <;> rfl)
    · refine lv_aload_n hx hb d_LS_store_96 rfl (lv_at hl 1 rfl) ?_
      refine cVI (rest := []) hc w (c_LS_endLink l E ad σ90) kv_LS_endLink mw_825 9 rfl rfl ⟨Nat.le_of_ble_eq_true rfl, Nat.le_of_ble_eq_true rfl⟩ hl.1 rfl (Nat.le_of_ble_eq_true rfl) ⟨Nat.zero_le _, Nat.zero_le _⟩ d_LS_store_97 (fun z97 H locs hs97 w => ?_)
      have e_c3 : zI (f_LS_store_c3 z97  ) = Z := by rw [← e90, f_LS_store_90, if_pos q93, hs97]
      refine lv_goto (tgt := 104) hx hb d_LS_store_100 (by decide) ?_
      exact rt_i hc w d_LS_store_104 (by rw [← e_c3, f_LS_store_c3] <;> rfl)
  have J57 : ∀ (σ57 : XS) (v57_4 : Int32) (v57_1 : Int32) (H : Heap) (locs : List Loc) (ls : Array Slot), Wd xCl E A s.heap H locs (xW E ad σ57) → lv_has ls 5 [(4, .int v57_4), (1, .int v57_1), (0, .ref (ad 9))] → zI (f_LS_store_57 σ57 v57_4 v57_1) = Z → W p l e (rmo 4 98) s m ([.ref (ad 9)] : List Value).toArray below meth c H locs 0 0 (MQ below (rQ xCl (xW E ad) E A Z) ([.ref (ad 9)] : List Value).toArray s 0 0 A) (F0 m 57 ls []) := by
    intro σ57 v57_4 v57_1 H locs ls w hl e57
    refine lv_aload_n hx hb d_LS_store_57 rfl (lv_at hl 2 rfl) ?_
    refine g_LS_memory hc w mw_182 d_LS_store_58 ?_
    refine lv_iload hx hb d_LS_store_61 (lv_at hl 0 rfl) ?_
    refine lv_iload_n hx hb d_LS_store_63 rfl (lv_at hl 1 rfl) ?_
    refine lv_aload_n hx hb d_LS_store_64 rfl (lv_at hl 2 rfl) ?_
    refine g_LS_memory hc w mw_182 d_LS_store_65 ?_
    refine lv_iload hx hb d_LS_store_68 (lv_at hl 0 rfl) ?_
    refine rVI (rest := [.int v57_1, .int v57_4, .ref (ad 1)]) hc w (c_ME_wordAt l E ad σ57 v57_4) kv_ME_wordAt mw_807 1 rfl rfl ⟨Nat.le_of_ble_eq_true rfl, Nat.le_of_ble_eq_true rfl⟩ hl.1 rfl (Nat.le_of_ble_eq_true rfl) ⟨Nat.zero_le _, Nat.zero_le _⟩ d_LS_store_70 (fun H locs w => ?_)
    refine lv_iload hx hb d_LS_store_73 (lv_at hl 0 rfl) ?_
    refine lv_iconst (v := 3) hx hb d_LS_store_75 (by decide) ?_
    refine lv_iand hx hb d_LS_store_76 ?_
    refine lv_aload_n hx hb d_LS_store_77 rfl (lv_at hl 2 rfl) ?_
    refine g_LS_core hc w mw_181 d_LS_store_78 ?_
    refine rVI (rest := [.int (v57_4 &&& (3 : Int32)), .int (f_ME_wordAt σ57 v57_4), .int v57_1, .int v57_4, .ref (ad 1)]) hc w (c_CO_t l E ad σ57) kv_CO_t mw_808 5 rfl rfl ⟨Nat.le_of_ble_eq_true rfl, Nat.le_of_ble_eq_true rfl⟩ hl.1 rfl (Nat.le_of_ble_eq_true rfl) ⟨Nat.zero_le _, Nat.zero_le _⟩ d_LS_store_81 (fun H locs w => ?_)
    refine rSI (rest := [.int v57_4, .ref (ad 1)]) hc w (c_LS_stored l E ad σ57 v57_1 (f_ME_wordAt σ57 v57_4) (v57_4 &&& (3 : Int32)) (f_CO_t σ57)) ks_LS_stored mw_817 ⟨Nat.le_of_ble_eq_true rfl, Nat.le_of_ble_eq_true rfl⟩ hl.1 rfl (Nat.le_of_ble_eq_true rfl) ⟨Nat.zero_le _, Nat.zero_le _⟩ d_LS_store_84 (fun H locs w => ?_)
    refine cVV (rest := []) hc w (c_ME_putWord l E ad σ57 v57_4 (f_LS_stored σ57 v57_1 (f_ME_wordAt σ57 v57_4) (v57_4 &&& (3 : Int32)) (f_CO_t σ57))) kv_ME_putWord mw_824 1 rfl rfl ⟨Nat.le_of_ble_eq_true rfl, Nat.le_of_ble_eq_true rfl⟩ hl.1 rfl (Nat.le_of_ble_eq_true rfl) ⟨Nat.zero_le _, Nat.zero_le _⟩ d_LS_store_87 (fun z87 H locs hs87 w => ?_)
    have e_c2 : zI (f_LS_store_c2 z87  v57_1) = Z := by rw [← e57, f_LS_store_57, hs87]
    exact J90 z87 v57_1 _ _ _ w (lv_sub hl [1, 2] rfl) (by rw [← e_c2, f_LS_store_c2])
  refine lv_aload_n hx hb d_LS_store_0 rfl (lv_at hl 0 rfl) ?_
  refine g_LS_core hc w mw_181 d_LS_store_1 ?_
  refine rVI (rest := []) hc w (c_CO_op l E ad σ) kv_CO_op mw_794 5 rfl rfl ⟨Nat.le_of_ble_eq_true rfl, Nat.le_of_ble_eq_true rfl⟩ hl.1 rfl (Nat.le_of_ble_eq_true rfl) ⟨Nat.zero_le _, Nat.zero_le _⟩ d_LS_store_4 (fun H locs w => ?_)
  refine lv_istore_n (lv' := [(1, .int (f_CO_op σ)), (0, .ref (ad 9))]) hx hb d_LS_store_7 rfl hl (by decide) rfl (fun ls hl => ?_)
  refine lv_aload_n hx hb d_LS_store_8 rfl (lv_at hl 1 rfl) ?_
  refine g_LS_space hc w mw_183 d_LS_store_9 ?_
  refine lv_aload_n hx hb d_LS_store_12 rfl (lv_at hl 1 rfl) ?_
  refine rVI (rest := [.ref (ad 4)]) hc w (c_LS_address l E ad σ) kv_LS_address mw_795 9 rfl rfl ⟨Nat.le_of_ble_eq_true rfl, Nat.le_of_ble_eq_true rfl⟩ hl.1 rfl (Nat.le_of_ble_eq_true rfl) ⟨Nat.zero_le _, Nat.zero_le _⟩ d_LS_store_13 (fun H locs w => ?_)
  refine lv_iconst (v := 1) hx hb d_LS_store_16 (by decide) ?_
  refine lv_iload_n hx hb d_LS_store_17 rfl (lv_at hl 0 rfl) ?_
  refine rSI (rest := [.int (1 : Int32), .int (f_LS_address σ), .ref (ad 4)]) hc w (c_LS_alignmentOf l E ad σ (f_CO_op σ)) ks_LS_alignmentOf mw_801 ⟨Nat.le_of_ble_eq_true rfl, Nat.le_of_ble_eq_true rfl⟩ hl.1 rfl (Nat.le_of_ble_eq_true rfl) ⟨Nat.zero_le _, Nat.zero_le _⟩ d_LS_store_18 (fun H locs w => ?_)
  refine cVL (rest := []) hc w (c_AS_locateAligned l E ad σ (f_LS_address σ) (1 : Int32) (f_LS_alignmentOf σ (f_CO_op σ))) kv_AS_locateAligned mw_804 4 rfl rfl ⟨Nat.le_of_ble_eq_true rfl, Nat.le_of_ble_eq_true rfl⟩ hl.1 rfl (Nat.le_of_ble_eq_true rfl) ⟨Nat.zero_le _, Nat.zero_le _⟩ d_LS_store_21 (fun z21 H locs hs21 w => ?_)
  generalize hv_u1_1 : f_CO_op σ = u1_1 at hl ⊢
  have e_c1 : zI (f_LS_store_c1 z21  u1_1) = Z := by rw [← e0, f_LS_store, hs21, hv_u1_1]
  refine lv_lstore_n (lv' := [(2, .long z21.2), (1, .int u1_1), (0, .ref (ad 9))]) hx hb d_LS_store_24 rfl hl (by decide) rfl (fun ls hl => ?_)
  refine lv_lload_n hx hb d_LS_store_25 rfl (lv_at hl 0 rfl) ?_
  refine lv_lconst (v := 0) hx hb d_LS_store_26 (by decide) ?_
  refine W.lcmp hx hb d_LS_store_27 ?_
  refine lv_if_ge (tgt := 36) hx hb d_LS_store_28 (by decide) (fun q28 => ?_) (fun q28 => ?_)
  · refine lv_lload_n hx hb d_LS_store_36 rfl (lv_at hl 0 rfl) ?_
    refine lv_l2i hx hb d_LS_store_37 rfl ?_
    refine lv_istore (lv' := [(4, .int (Int64.toInt32 z21.2)), (2, .long z21.2), (1, .int u1_1), (0, .ref (ad 9))]) hx hb d_LS_store_38 hl (by decide) rfl (fun ls hl => ?_)
    refine lv_iload_n hx hb d_LS_store_40 rfl (lv_at hl 2 rfl) ?_
    refine lv_bipush (v := 56) hx hb d_LS_store_41 (by decide) ?_
    refine lv_icmp_ne (tgt := 57) hx hb d_LS_store_43 (by decide) (fun q43 => ?_) (fun q43 => ?_)
    · exact J57 z21.1 (Int64.toInt32 z21.2) u1_1 _ _ _ w (lv_sub hl [0, 2, 3] rfl) (by rw [← e_c1, f_LS_store_c1, if_pos q28, if_neg q43])
    · refine lv_aload_n hx hb d_LS_store_46 rfl (lv_at hl 3 rfl) ?_
      refine g_LS_core hc w mw_181 d_LS_store_47 ?_
      refine g_CO_link hc w mw_115 d_LS_store_50 ?_
      refine lv_iconst (v := 1) hx hb d_LS_store_53 (by decide) ?_
      refine lv_icmp_ne (tgt := 90) hx hb d_LS_store_54 (by decide) (fun q54 => ?_) (fun q54 => ?_)
      · exact J90 z21.1 u1_1 _ _ _ w (lv_sub hl [2, 3] rfl) (by rw [← e_c1, f_LS_store_c1, if_pos q28, if_pos q43, if_neg q54])
      · exact J57 z21.1 (Int64.toInt32 z21.2) u1_1 _ _ _ w (lv_sub hl [0, 2, 3] rfl) (by rw [← e_c1, f_LS_store_c1, if_pos q28, if_pos q43, if_pos q54])
  · refine lv_lload_n hx hb d_LS_store_31 rfl (lv_at hl 0 rfl) ?_
    refine rSI (rest := []) hc w (c_AS_faultIn l E ad z21.1 z21.2) ks_AS_faultIn mw_805 ⟨Nat.le_of_ble_eq_true rfl, Nat.le_of_ble_eq_true rfl⟩ hl.1 rfl (Nat.le_of_ble_eq_true rfl) ⟨Nat.zero_le _, Nat.zero_le _⟩ d_LS_store_32 (fun H locs w => ?_)
    exact rt_i hc w d_LS_store_35 (by rw [← e_c1, f_LS_store_c1, if_neg q28] <;> rfl)
