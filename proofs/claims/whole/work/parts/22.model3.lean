-- MO_divides
def f_MO_divides_c3 (z47 : MS) (a1 : Int32) (a2 : Int32) (a3 : Int32)  : MS := z47
def f_MO_divides_c2 (σ77 : MS) (a1 : Int32) (a2 : Int32) (a3 : Int32)  : MS := σ77
def f_MO_divides_c1 (σ67 : MS) (a1 : Int32) (a2 : Int32) (a3 : Int32) (u1_7 : Int64) (u1_5 : Int64) : MS := f_MO_divides_c2 (ms_hi σ67 (Int64.toInt32 (u1_5 - u1_5 / u1_7 * u1_7))) a1 a2 a3 
def f_MO_divides_17 (σ : MS) (a1 : Int32) (a2 : Int32) (a3 : Int32) (w17_0 : Bool) : MS := if (26 : Int32) ≤ a1 then (if (lg_cmp (f_MO_whole σ a3 w17_0) (0 : Int64)) = 0 then (σ) else (f_MO_divides_c1 (ms_lo σ (Int64.toInt32 ((f_MO_whole σ a2 w17_0) / (f_MO_whole σ a3 w17_0)))) a1 a2 a3 (f_MO_whole σ a3 w17_0) (f_MO_whole σ a2 w17_0))) else (f_MO_divides_c3 (f_MO_setBoth σ ((f_MO_whole σ a2 w17_0) * (f_MO_whole σ a3 w17_0))) a1 a2 a3 )
def f_MO_divides_12 (σ : MS) (a1 : Int32) (a2 : Int32) (a3 : Int32) : MS := f_MO_divides_17 σ a1 a2 a3 true
def f_MO_divides (σ : MS) (a1 : Int32) (a2 : Int32) (a3 : Int32) : MS := if a1 = (24 : Int32) then (f_MO_divides_12 σ a1 a2 a3) else (if a1 = (26 : Int32) then (f_MO_divides_12 σ a1 a2 a3) else (f_MO_divides_17 σ a1 a2 a3 false))
theorem d_MO_divides_0 : decode b_MO_divides 0 = .ok (.iload_n 1, 1) := by decide +kernel
theorem d_MO_divides_1 : decode b_MO_divides 1 = .ok (.bipush 24, 2) := by decide +kernel
theorem d_MO_divides_3 : decode b_MO_divides 3 = .ok (.if_icmp .eq 9, 3) := by decide +kernel
theorem d_MO_divides_6 : decode b_MO_divides 6 = .ok (.iload_n 1, 1) := by decide +kernel
theorem d_MO_divides_7 : decode b_MO_divides 7 = .ok (.bipush 26, 2) := by decide +kernel
theorem d_MO_divides_9 : decode b_MO_divides 9 = .ok (.if_icmp .ne 7, 3) := by decide +kernel
theorem d_MO_divides_12 : decode b_MO_divides 12 = .ok (.iconst 1, 1) := by decide +kernel
theorem d_MO_divides_13 : decode b_MO_divides 13 = .ok (.goto 4, 3) := by decide +kernel
theorem d_MO_divides_16 : decode b_MO_divides 16 = .ok (.iconst 0, 1) := by decide +kernel
theorem d_MO_divides_17 : decode b_MO_divides 17 = .ok (.istore 4, 2) := by decide +kernel
theorem d_MO_divides_19 : decode b_MO_divides 19 = .ok (.iload_n 2, 1) := by decide +kernel
theorem d_MO_divides_20 : decode b_MO_divides 20 = .ok (.iload 4, 2) := by decide +kernel
theorem d_MO_divides_22 : decode b_MO_divides 22 = .ok (.invokestatic 220, 3) := by decide +kernel
theorem d_MO_divides_25 : decode b_MO_divides 25 = .ok (.lstore 5, 2) := by decide +kernel
theorem d_MO_divides_27 : decode b_MO_divides 27 = .ok (.iload_n 3, 1) := by decide +kernel
theorem d_MO_divides_28 : decode b_MO_divides 28 = .ok (.iload 4, 2) := by decide +kernel
theorem d_MO_divides_30 : decode b_MO_divides 30 = .ok (.invokestatic 220, 3) := by decide +kernel
theorem d_MO_divides_33 : decode b_MO_divides 33 = .ok (.lstore 7, 2) := by decide +kernel
theorem d_MO_divides_35 : decode b_MO_divides 35 = .ok (.iload_n 1, 1) := by decide +kernel
theorem d_MO_divides_36 : decode b_MO_divides 36 = .ok (.bipush 26, 2) := by decide +kernel
theorem d_MO_divides_38 : decode b_MO_divides 38 = .ok (.if_icmp .ge 15, 3) := by decide +kernel
theorem d_MO_divides_41 : decode b_MO_divides 41 = .ok (.aload_n 0, 1) := by decide +kernel
theorem d_MO_divides_42 : decode b_MO_divides 42 = .ok (.lload 5, 2) := by decide +kernel
theorem d_MO_divides_44 : decode b_MO_divides 44 = .ok (.lload 7, 2) := by decide +kernel
theorem d_MO_divides_46 : decode b_MO_divides 46 = .ok (.lmul, 1) := by decide +kernel
theorem d_MO_divides_47 : decode b_MO_divides 47 = .ok (.invokevirtual 224, 3) := by decide +kernel
theorem d_MO_divides_50 : decode b_MO_divides 50 = .ok (.goto 30, 3) := by decide +kernel
theorem d_MO_divides_53 : decode b_MO_divides 53 = .ok (.lload 7, 2) := by decide +kernel
theorem d_MO_divides_55 : decode b_MO_divides 55 = .ok (.lconst 0, 1) := by decide +kernel
theorem d_MO_divides_56 : decode b_MO_divides 56 = .ok (.lcmp, 1) := by decide +kernel
theorem d_MO_divides_57 : decode b_MO_divides 57 = .ok (.ifCond .eq 23, 3) := by decide +kernel
theorem d_MO_divides_60 : decode b_MO_divides 60 = .ok (.aload_n 0, 1) := by decide +kernel
theorem d_MO_divides_61 : decode b_MO_divides 61 = .ok (.lload 5, 2) := by decide +kernel
theorem d_MO_divides_63 : decode b_MO_divides 63 = .ok (.lload 7, 2) := by decide +kernel
theorem d_MO_divides_65 : decode b_MO_divides 65 = .ok (.ldiv, 1) := by decide +kernel
theorem d_MO_divides_66 : decode b_MO_divides 66 = .ok (.l2i, 1) := by decide +kernel
theorem d_MO_divides_67 : decode b_MO_divides 67 = .ok (.putfield 75, 3) := by decide +kernel
theorem d_MO_divides_70 : decode b_MO_divides 70 = .ok (.aload_n 0, 1) := by decide +kernel
theorem d_MO_divides_71 : decode b_MO_divides 71 = .ok (.lload 5, 2) := by decide +kernel
theorem d_MO_divides_73 : decode b_MO_divides 73 = .ok (.lload 7, 2) := by decide +kernel
theorem d_MO_divides_75 : decode b_MO_divides 75 = .ok (.lrem, 1) := by decide +kernel
theorem d_MO_divides_76 : decode b_MO_divides 76 = .ok (.l2i, 1) := by decide +kernel
theorem d_MO_divides_77 : decode b_MO_divides 77 = .ok (.putfield 72, 3) := by decide +kernel
theorem d_MO_divides_80 : decode b_MO_divides 80 = .ok (.return_, 1) := by decide +kernel
set_option maxHeartbeats 4000000 in
set_option maxRecDepth 100000 in
theorem c_MO_divides (l : Launch) (E : Ev) (ad : Nat → Nat) (σ : MS) (a1 : Int32) (a2 : Int32) (a3 : Int32) : rC xCl l E (mW E ad) y_MO_divides b_MO_divides 9 (Option.none : Option Jvm.ClassFile.FieldType) (rmo 1 22) [.ref (ad 0), .int a1, .int a2, .int a3] σ (zV (f_MO_divides σ a1 a2 a3)) := by
  refine rC.of (by decide) (Nat.le_of_ble_eq_true rfl) ?_
  intro p e s m below meth c A ls hc w hl
  generalize e0 : zV (f_MO_divides σ a1 a2 a3) = Z
  have hc : Cx xCl E A p s m ([.ref (ad 0), .int a1, .int a2, .int a3] : List Value).toArray meth c b_MO_divides 9 (Option.none : Option Jvm.ClassFile.FieldType) "PageMachineModel" := hc
  have hx := hc.1
  have hb := hc.2.1
  have ho := hc.2.2.2.2.2.1
  have hT := hc.2.2.2.2.2.2.1
  have hl : lv_has ls 9 [(0, .ref (ad 0)), (1, .int a1), (2, .int a2), (3, .int a3)] := hl
  have J17 : ∀ (w17_0 : Bool) (H : Heap) (locs : List Loc) (ls : Array Slot), Wd xCl E A s.heap H locs (mW E ad σ) → lv_has ls 9 [(0, .ref (ad 0)), (1, .int a1), (2, .int a2), (3, .int a3)] → zV (f_MO_divides_17 σ a1 a2 a3 w17_0) = Z → W p l e (rmo 1 22) s m ([.ref (ad 0), .int a1, .int a2, .int a3] : List Value).toArray below meth c H locs 0 0 (MQ below (rQ xCl (mW E ad) E A Z) ([.ref (ad 0), .int a1, .int a2, .int a3] : List Value).toArray s 0 0 A) (F0 m 17 ls [.int (zb w17_0)]) := by
    intro w17_0 H locs ls w hl e17
    refine lv_istore (lv' := [(4, .int (zb w17_0)), (0, .ref (ad 0)), (1, .int a1), (2, .int a2), (3, .int a3)]) hx hb d_MO_divides_17 hl (by decide) rfl (fun ls hl => ?_)
    refine lv_iload_n hx hb d_MO_divides_19 rfl (lv_at hl 3 rfl) ?_
    refine lv_iload hx hb d_MO_divides_20 (lv_at hl 0 rfl) ?_
    refine rSL (rest := []) hc w (c_MO_whole l E ad σ a2 w17_0) ks_MO_whole mw_1099 ⟨Nat.le_of_ble_eq_true rfl, Nat.le_of_ble_eq_true rfl⟩ hl.1 rfl (Nat.le_of_ble_eq_true rfl) ⟨Nat.zero_le _, Nat.zero_le _⟩ d_MO_divides_22 (fun H locs w => ?_)
    refine lv_lstore (lv' := [(5, .long (f_MO_whole σ a2 w17_0)), (4, .int (zb w17_0)), (0, .ref (ad 0)), (1, .int a1), (2, .int a2), (3, .int a3)]) hx hb d_MO_divides_25 hl (by decide) rfl (fun ls hl => ?_)
    refine lv_iload_n hx hb d_MO_divides_27 rfl (lv_at hl 5 rfl) ?_
    refine lv_iload hx hb d_MO_divides_28 (lv_at hl 1 rfl) ?_
    refine rSL (rest := []) hc w (c_MO_whole l E ad σ a3 w17_0) ks_MO_whole mw_1099 ⟨Nat.le_of_ble_eq_true rfl, Nat.le_of_ble_eq_true rfl⟩ hl.1 rfl (Nat.le_of_ble_eq_true rfl) ⟨Nat.zero_le _, Nat.zero_le _⟩ d_MO_divides_30 (fun H locs w => ?_)
    refine lv_lstore (lv' := [(7, .long (f_MO_whole σ a3 w17_0)), (5, .long (f_MO_whole σ a2 w17_0)), (4, .int (zb w17_0)), (0, .ref (ad 0)), (1, .int a1), (2, .int a2), (3, .int a3)]) hx hb d_MO_divides_33 hl (by decide) rfl (fun ls hl => ?_)
    refine lv_iload_n hx hb d_MO_divides_35 rfl (lv_at hl 4 rfl) ?_
    refine lv_bipush (v := 26) hx hb d_MO_divides_36 (by decide) ?_
    refine lv_icmp_ge (tgt := 53) hx hb d_MO_divides_38 (by decide) (fun q38 => ?_) (fun q38 => ?_)
    · refine lv_lload hx hb d_MO_divides_53 (lv_at hl 0 rfl) ?_
      refine lv_lconst (v := 0) hx hb d_MO_divides_55 (by decide) ?_
      refine W.lcmp hx hb d_MO_divides_56 ?_
      refine lv_if_eq (tgt := 80) hx hb d_MO_divides_57 (by decide) (fun q57 => ?_) (fun q57 => ?_)
      · exact rt_v hc w d_MO_divides_80 (by rw [← e17, f_MO_divides_17, if_pos q38, if_pos q57] <;> rfl)
      · refine lv_aload_n hx hb d_MO_divides_60 rfl (lv_at hl 3 rfl) ?_
        refine lv_lload hx hb d_MO_divides_61 (lv_at hl 1 rfl) ?_
        refine lv_lload hx hb d_MO_divides_63 (lv_at hl 0 rfl) ?_
        refine lv_ldiv hx hb d_MO_divides_65 (fun h => q57 (by rw [h]; decide)) ?_
        refine lv_l2i hx hb d_MO_divides_66 rfl ?_
        refine p_MO_lo hc w mw_890 d_MO_divides_67 (fun σ67 H locs hs67 w => ?_)
        generalize hv_u1_7 : f_MO_whole σ a3 w17_0 = u1_7 at hl ⊢
        generalize hv_u1_5 : f_MO_whole σ a2 w17_0 = u1_5 at hl ⊢
        have e_c1 : zV (f_MO_divides_c1 σ67 a1 a2 a3 u1_7 u1_5) = Z := by rw [← e17, f_MO_divides_17, if_pos q38, if_neg q57, hs67, hv_u1_7, hv_u1_5]
        refine lv_aload_n hx hb d_MO_divides_70 rfl (lv_at hl 3 rfl) ?_
        refine lv_lload hx hb d_MO_divides_71 (lv_at hl 1 rfl) ?_
        refine lv_lload hx hb d_MO_divides_73 (lv_at hl 0 rfl) ?_
        refine lv_lrem hx hb d_MO_divides_75 (fun h => q57 (by rw [hv_u1_7, h]; decide)) ?_
        refine lv_l2i hx hb d_MO_divides_76 rfl ?_
        refine p_MO_hi hc w mw_889 d_MO_divides_77 (fun σ77 H locs hs77 w => ?_)
        have e_c2 : zV (f_MO_divides_c2 σ77 a1 a2 a3 ) = Z := by rw [← e_c1, f_MO_divides_c1, hs77]
        exact rt_v hc w d_MO_divides_80 (by rw [← e_c2, f_MO_divides_c2] <;> rfl)
    · refine lv_aload_n hx hb d_MO_divides_41 rfl (lv_at hl 3 rfl) ?_
      refine lv_lload hx hb d_MO_divides_42 (lv_at hl 1 rfl) ?_
      refine lv_lload hx hb d_MO_divides_44 (lv_at hl 0 rfl) ?_
      refine lv_lmul hx hb d_MO_divides_46 ?_
      refine cVV (rest := []) hc w (c_MO_setBoth l E ad σ ((f_MO_whole σ a2 w17_0) * (f_MO_whole σ a3 w17_0))) kv_MO_setBoth mw_1103 0 rfl rfl ⟨Nat.le_of_ble_eq_true rfl, Nat.le_of_ble_eq_true rfl⟩ hl.1 rfl (Nat.le_of_ble_eq_true rfl) ⟨Nat.zero_le _, Nat.zero_le _⟩ d_MO_divides_47 (fun z47 H locs hs47 w => ?_)
      have e_c3 : zV (f_MO_divides_c3 z47 a1 a2 a3 ) = Z := by rw [← e17, f_MO_divides_17, if_neg q38, hs47]
      refine lv_goto (tgt := 80) hx hb d_MO_divides_50 (by decide) ?_
      exact rt_v hc w d_MO_divides_80 (by rw [← e_c3, f_MO_divides_c3] <;> rfl)
  have J12 : ∀ (H : Heap) (locs : List Loc) (ls : Array Slot), Wd xCl E A s.heap H locs (mW E ad σ) → lv_has ls 9 [(0, .ref (ad 0)), (1, .int a1), (2, .int a2), (3, .int a3)] → zV (f_MO_divides_12 σ a1 a2 a3) = Z → W p l e (rmo 1 22) s m ([.ref (ad 0), .int a1, .int a2, .int a3] : List Value).toArray below meth c H locs 0 0 (MQ below (rQ xCl (mW E ad) E A Z) ([.ref (ad 0), .int a1, .int a2, .int a3] : List Value).toArray s 0 0 A) (F0 m 12 ls []) := by
    intro  H locs ls w hl e12
    refine lv_iconst (v := 1) hx hb d_MO_divides_12 (by decide) ?_
    refine lv_goto (tgt := 17) hx hb d_MO_divides_13 (by decide) ?_
    exact J17 true _ _ _ w (lv_sub hl [0, 1, 2, 3] rfl) (by rw [← e12, f_MO_divides_12])
  refine lv_iload_n hx hb d_MO_divides_0 rfl (lv_at hl 1 rfl) ?_
  refine lv_bipush (v := 24) hx hb d_MO_divides_1 (by decide) ?_
  refine lv_icmp_eq (tgt := 12) hx hb d_MO_divides_3 (by decide) (fun q3 => ?_) (fun q3 => ?_)
  · exact J12  _ _ _ w (lv_sub hl [0, 1, 2, 3] rfl) (by rw [← e0, f_MO_divides, if_pos q3])
  · refine lv_iload_n hx hb d_MO_divides_6 rfl (lv_at hl 1 rfl) ?_
    refine lv_bipush (v := 26) hx hb d_MO_divides_7 (by decide) ?_
    refine lv_icmp_ne (tgt := 16) hx hb d_MO_divides_9 (by decide) (fun q9 => ?_) (fun q9 => ?_)
    · refine lv_iconst (v := 0) hx hb d_MO_divides_16 (by decide) ?_
      exact J17 false _ _ _ w (lv_sub hl [0, 1, 2, 3] rfl) (by rw [← e0, f_MO_divides, if_neg q3, if_neg q9])
    · exact J12  _ _ _ w (lv_sub hl [0, 1, 2, 3] rfl) (by rw [← e0, f_MO_divides, if_neg q3, if_pos q9])
-- MO_sums
def f_MO_sums_c6 (z48 : MS × Int32) (a1 : Int32) (a2 : Int32) (a3 : Int32) (a4 : Int32)  : MS := z48.1
def f_MO_sums_c5 (z60 : MS) (a1 : Int32) (a2 : Int32) (a3 : Int32) (a4 : Int32)  : MS := z60
def f_MO_sums_35 (σ : MS) (a1 : Int32) (a2 : Int32) (a3 : Int32) (a4 : Int32) (v35_5 : Int64) : MS := if (lg_cmp v35_5 (Int32.toInt64 (Int64.toInt32 v35_5))) = 0 then (f_MO_sums_c5 (f_MO_put σ a2 (Int64.toInt32 v35_5)) a1 a2 a3 a4 ) else (f_MO_sums_c6 (f_MO_raise σ (12 : Int32)) a1 a2 a3 a4 )
def f_MO_sums_c4 (z97 : MS) (a1 : Int32) (a2 : Int32) (a3 : Int32) (a4 : Int32)  : MS := z97
def f_MO_sums_97 (σ : MS) (a1 : Int32) (a2 : Int32) (a3 : Int32) (a4 : Int32) (w97_2 : Int32) : MS := f_MO_sums_c4 (f_MO_put σ a2 w97_2) a1 a2 a3 a4 
def f_MO_sums_78 (σ : MS) (a1 : Int32) (a2 : Int32) (a3 : Int32) (a4 : Int32) : MS := if a1 = (33 : Int32) then (f_MO_sums_97 σ a1 a2 a3 a4 (a3 + a4)) else (f_MO_sums_97 σ a1 a2 a3 a4 (a3 - a4))
def f_MO_sums_c3 (z210 : MS) (a1 : Int32) (a2 : Int32) (a3 : Int32) (a4 : Int32)  : MS := z210
def f_MO_sums_210 (σ : MS) (a1 : Int32) (a2 : Int32) (a3 : Int32) (a4 : Int32) (w210_2 : Bool) : MS := f_MO_sums_c3 (f_MO_put σ a2 (zb w210_2)) a1 a2 a3 a4 
def f_MO_sums_209 (σ : MS) (a1 : Int32) (a2 : Int32) (a3 : Int32) (a4 : Int32) : MS := f_MO_sums_210 σ a1 a2 a3 a4 false
def f_MO_sums_205 (σ : MS) (a1 : Int32) (a2 : Int32) (a3 : Int32) (a4 : Int32) : MS := f_MO_sums_210 σ a1 a2 a3 a4 true
def f_MO_sums_179 (σ : MS) (a1 : Int32) (a2 : Int32) (a3 : Int32) (a4 : Int32) : MS := if a1 = (42 : Int32) then (if a4 ≤ a3 then (f_MO_sums_209 σ a1 a2 a3 a4) else (f_MO_sums_205 σ a1 a2 a3 a4)) else (if (zb (f_MO_isBelow σ a3 a4)) = 0 then (f_MO_sums_209 σ a1 a2 a3 a4) else (f_MO_sums_205 σ a1 a2 a3 a4))
def f_MO_sums_c2 (z161 : MS) (a1 : Int32) (a2 : Int32) (a3 : Int32) (a4 : Int32)  : MS := z161
def f_MO_sums_161 (σ : MS) (a1 : Int32) (a2 : Int32) (a3 : Int32) (a4 : Int32) (w161_2 : Int32) : MS := f_MO_sums_c2 (f_MO_put σ a2 w161_2) a1 a2 a3 a4 
def f_MO_sums_c1 (z219 : MS × Int32) (a1 : Int32) (a2 : Int32) (a3 : Int32) (a4 : Int32)  : MS := z219.1
def f_MO_sums_21 (σ : MS) (a1 : Int32) (a2 : Int32) (a3 : Int32) (a4 : Int32) (w21_0 : Int64) : MS := if a1 = (32 : Int32) then (f_MO_sums_35 σ a1 a2 a3 a4 w21_0) else (if a1 = (34 : Int32) then (f_MO_sums_35 σ a1 a2 a3 a4 w21_0) else (if a1 = (33 : Int32) then (f_MO_sums_78 σ a1 a2 a3 a4) else (if a1 = (35 : Int32) then (f_MO_sums_78 σ a1 a2 a3 a4) else (if (zb (f_MO_within σ a1 (36 : Int32) (39 : Int32))) = 0 then (if a1 = (42 : Int32) then (f_MO_sums_179 σ a1 a2 a3 a4) else (if a1 = (43 : Int32) then (f_MO_sums_179 σ a1 a2 a3 a4) else (f_MO_sums_c1 (f_MO_raise σ (10 : Int32)) a1 a2 a3 a4 ))) else (if a1 = (36 : Int32) then (f_MO_sums_161 σ a1 a2 a3 a4 (a3 &&& a4)) else (if a1 = (37 : Int32) then (f_MO_sums_161 σ a1 a2 a3 a4 (a3 ||| a4)) else (if a1 = (38 : Int32) then (f_MO_sums_161 σ a1 a2 a3 a4 (a3 ^^^ a4)) else (f_MO_sums_161 σ a1 a2 a3 a4 ((a3 ||| a4) ^^^ (-1 : Int32))))))))))
def f_MO_sums (σ : MS) (a1 : Int32) (a2 : Int32) (a3 : Int32) (a4 : Int32) : MS := if a1 = (32 : Int32) then (f_MO_sums_21 σ a1 a2 a3 a4 ((Int32.toInt64 a3) + (Int32.toInt64 a4))) else (f_MO_sums_21 σ a1 a2 a3 a4 ((Int32.toInt64 a3) - (Int32.toInt64 a4)))
theorem d_MO_sums_0 : decode b_MO_sums 0 = .ok (.iload_n 1, 1) := by decide +kernel
theorem d_MO_sums_1 : decode b_MO_sums 1 = .ok (.bipush 32, 2) := by decide +kernel
theorem d_MO_sums_3 : decode b_MO_sums 3 = .ok (.if_icmp .ne 12, 3) := by decide +kernel
theorem d_MO_sums_6 : decode b_MO_sums 6 = .ok (.iload_n 3, 1) := by decide +kernel
theorem d_MO_sums_7 : decode b_MO_sums 7 = .ok (.i2l, 1) := by decide +kernel
theorem d_MO_sums_8 : decode b_MO_sums 8 = .ok (.iload 4, 2) := by decide +kernel
theorem d_MO_sums_10 : decode b_MO_sums 10 = .ok (.i2l, 1) := by decide +kernel
theorem d_MO_sums_11 : decode b_MO_sums 11 = .ok (.ladd, 1) := by decide +kernel
theorem d_MO_sums_12 : decode b_MO_sums 12 = .ok (.goto 9, 3) := by decide +kernel
theorem d_MO_sums_15 : decode b_MO_sums 15 = .ok (.iload_n 3, 1) := by decide +kernel
theorem d_MO_sums_16 : decode b_MO_sums 16 = .ok (.i2l, 1) := by decide +kernel
theorem d_MO_sums_17 : decode b_MO_sums 17 = .ok (.iload 4, 2) := by decide +kernel
theorem d_MO_sums_19 : decode b_MO_sums 19 = .ok (.i2l, 1) := by decide +kernel
theorem d_MO_sums_20 : decode b_MO_sums 20 = .ok (.lsub, 1) := by decide +kernel
theorem d_MO_sums_21 : decode b_MO_sums 21 = .ok (.lstore 5, 2) := by decide +kernel
theorem d_MO_sums_23 : decode b_MO_sums 23 = .ok (.iload_n 1, 1) := by decide +kernel
theorem d_MO_sums_24 : decode b_MO_sums 24 = .ok (.bipush 32, 2) := by decide +kernel
theorem d_MO_sums_26 : decode b_MO_sums 26 = .ok (.if_icmp .eq 9, 3) := by decide +kernel
theorem d_MO_sums_29 : decode b_MO_sums 29 = .ok (.iload_n 1, 1) := by decide +kernel
theorem d_MO_sums_30 : decode b_MO_sums 30 = .ok (.bipush 34, 2) := by decide +kernel
theorem d_MO_sums_32 : decode b_MO_sums 32 = .ok (.if_icmp .ne 34, 3) := by decide +kernel
theorem d_MO_sums_35 : decode b_MO_sums 35 = .ok (.lload 5, 2) := by decide +kernel
theorem d_MO_sums_37 : decode b_MO_sums 37 = .ok (.lload 5, 2) := by decide +kernel
theorem d_MO_sums_39 : decode b_MO_sums 39 = .ok (.l2i, 1) := by decide +kernel
theorem d_MO_sums_40 : decode b_MO_sums 40 = .ok (.i2l, 1) := by decide +kernel
theorem d_MO_sums_41 : decode b_MO_sums 41 = .ok (.lcmp, 1) := by decide +kernel
theorem d_MO_sums_42 : decode b_MO_sums 42 = .ok (.ifCond .eq 13, 3) := by decide +kernel
theorem d_MO_sums_45 : decode b_MO_sums 45 = .ok (.aload_n 0, 1) := by decide +kernel
theorem d_MO_sums_46 : decode b_MO_sums 46 = .ok (.bipush 12, 2) := by decide +kernel
theorem d_MO_sums_48 : decode b_MO_sums 48 = .ok (.invokevirtual 196, 3) := by decide +kernel
theorem d_MO_sums_51 : decode b_MO_sums 51 = .ok (.pop, 1) := by decide +kernel
theorem d_MO_sums_52 : decode b_MO_sums 52 = .ok (.goto 171, 3) := by decide +kernel
theorem d_MO_sums_55 : decode b_MO_sums 55 = .ok (.aload_n 0, 1) := by decide +kernel
theorem d_MO_sums_56 : decode b_MO_sums 56 = .ok (.iload_n 2, 1) := by decide +kernel
theorem d_MO_sums_57 : decode b_MO_sums 57 = .ok (.lload 5, 2) := by decide +kernel
theorem d_MO_sums_59 : decode b_MO_sums 59 = .ok (.l2i, 1) := by decide +kernel
theorem d_MO_sums_60 : decode b_MO_sums 60 = .ok (.invokevirtual 78, 3) := by decide +kernel
theorem d_MO_sums_63 : decode b_MO_sums 63 = .ok (.goto 160, 3) := by decide +kernel
theorem d_MO_sums_66 : decode b_MO_sums 66 = .ok (.iload_n 1, 1) := by decide +kernel
theorem d_MO_sums_67 : decode b_MO_sums 67 = .ok (.bipush 33, 2) := by decide +kernel
theorem d_MO_sums_69 : decode b_MO_sums 69 = .ok (.if_icmp .eq 9, 3) := by decide +kernel
theorem d_MO_sums_72 : decode b_MO_sums 72 = .ok (.iload_n 1, 1) := by decide +kernel
theorem d_MO_sums_73 : decode b_MO_sums 73 = .ok (.bipush 35, 2) := by decide +kernel
theorem d_MO_sums_75 : decode b_MO_sums 75 = .ok (.if_icmp .ne 28, 3) := by decide +kernel
theorem d_MO_sums_78 : decode b_MO_sums 78 = .ok (.aload_n 0, 1) := by decide +kernel
theorem d_MO_sums_79 : decode b_MO_sums 79 = .ok (.iload_n 2, 1) := by decide +kernel
theorem d_MO_sums_80 : decode b_MO_sums 80 = .ok (.iload_n 1, 1) := by decide +kernel
theorem d_MO_sums_81 : decode b_MO_sums 81 = .ok (.bipush 33, 2) := by decide +kernel
theorem d_MO_sums_83 : decode b_MO_sums 83 = .ok (.if_icmp .ne 10, 3) := by decide +kernel
theorem d_MO_sums_86 : decode b_MO_sums 86 = .ok (.iload_n 3, 1) := by decide +kernel
theorem d_MO_sums_87 : decode b_MO_sums 87 = .ok (.iload 4, 2) := by decide +kernel
theorem d_MO_sums_89 : decode b_MO_sums 89 = .ok (.iadd, 1) := by decide +kernel
theorem d_MO_sums_90 : decode b_MO_sums 90 = .ok (.goto 7, 3) := by decide +kernel
theorem d_MO_sums_93 : decode b_MO_sums 93 = .ok (.iload_n 3, 1) := by decide +kernel
theorem d_MO_sums_94 : decode b_MO_sums 94 = .ok (.iload 4, 2) := by decide +kernel
theorem d_MO_sums_96 : decode b_MO_sums 96 = .ok (.isub, 1) := by decide +kernel
theorem d_MO_sums_97 : decode b_MO_sums 97 = .ok (.invokevirtual 78, 3) := by decide +kernel
theorem d_MO_sums_100 : decode b_MO_sums 100 = .ok (.goto 123, 3) := by decide +kernel
theorem d_MO_sums_103 : decode b_MO_sums 103 = .ok (.iload_n 1, 1) := by decide +kernel
theorem d_MO_sums_104 : decode b_MO_sums 104 = .ok (.bipush 36, 2) := by decide +kernel
theorem d_MO_sums_106 : decode b_MO_sums 106 = .ok (.bipush 39, 2) := by decide +kernel
theorem d_MO_sums_108 : decode b_MO_sums 108 = .ok (.invokestatic 56, 3) := by decide +kernel
theorem d_MO_sums_111 : decode b_MO_sums 111 = .ok (.ifCond .eq 56, 3) := by decide +kernel
theorem d_MO_sums_114 : decode b_MO_sums 114 = .ok (.aload_n 0, 1) := by decide +kernel
theorem d_MO_sums_115 : decode b_MO_sums 115 = .ok (.iload_n 2, 1) := by decide +kernel
theorem d_MO_sums_116 : decode b_MO_sums 116 = .ok (.iload_n 1, 1) := by decide +kernel
theorem d_MO_sums_117 : decode b_MO_sums 117 = .ok (.bipush 36, 2) := by decide +kernel
theorem d_MO_sums_119 : decode b_MO_sums 119 = .ok (.if_icmp .ne 10, 3) := by decide +kernel
theorem d_MO_sums_122 : decode b_MO_sums 122 = .ok (.iload_n 3, 1) := by decide +kernel
theorem d_MO_sums_123 : decode b_MO_sums 123 = .ok (.iload 4, 2) := by decide +kernel
theorem d_MO_sums_125 : decode b_MO_sums 125 = .ok (.iand, 1) := by decide +kernel
theorem d_MO_sums_126 : decode b_MO_sums 126 = .ok (.goto 35, 3) := by decide +kernel
theorem d_MO_sums_129 : decode b_MO_sums 129 = .ok (.iload_n 1, 1) := by decide +kernel
theorem d_MO_sums_130 : decode b_MO_sums 130 = .ok (.bipush 37, 2) := by decide +kernel
theorem d_MO_sums_132 : decode b_MO_sums 132 = .ok (.if_icmp .ne 10, 3) := by decide +kernel
theorem d_MO_sums_135 : decode b_MO_sums 135 = .ok (.iload_n 3, 1) := by decide +kernel
theorem d_MO_sums_136 : decode b_MO_sums 136 = .ok (.iload 4, 2) := by decide +kernel
theorem d_MO_sums_138 : decode b_MO_sums 138 = .ok (.ior, 1) := by decide +kernel
theorem d_MO_sums_139 : decode b_MO_sums 139 = .ok (.goto 22, 3) := by decide +kernel
theorem d_MO_sums_142 : decode b_MO_sums 142 = .ok (.iload_n 1, 1) := by decide +kernel
theorem d_MO_sums_143 : decode b_MO_sums 143 = .ok (.bipush 38, 2) := by decide +kernel
theorem d_MO_sums_145 : decode b_MO_sums 145 = .ok (.if_icmp .ne 10, 3) := by decide +kernel
theorem d_MO_sums_148 : decode b_MO_sums 148 = .ok (.iload_n 3, 1) := by decide +kernel
theorem d_MO_sums_149 : decode b_MO_sums 149 = .ok (.iload 4, 2) := by decide +kernel
theorem d_MO_sums_151 : decode b_MO_sums 151 = .ok (.ixor, 1) := by decide +kernel
theorem d_MO_sums_152 : decode b_MO_sums 152 = .ok (.goto 9, 3) := by decide +kernel
theorem d_MO_sums_155 : decode b_MO_sums 155 = .ok (.iload_n 3, 1) := by decide +kernel
theorem d_MO_sums_156 : decode b_MO_sums 156 = .ok (.iload 4, 2) := by decide +kernel
theorem d_MO_sums_158 : decode b_MO_sums 158 = .ok (.ior, 1) := by decide +kernel
theorem d_MO_sums_159 : decode b_MO_sums 159 = .ok (.iconst (-1), 1) := by decide +kernel
theorem d_MO_sums_160 : decode b_MO_sums 160 = .ok (.ixor, 1) := by decide +kernel
theorem d_MO_sums_161 : decode b_MO_sums 161 = .ok (.invokevirtual 78, 3) := by decide +kernel
theorem d_MO_sums_164 : decode b_MO_sums 164 = .ok (.goto 59, 3) := by decide +kernel
theorem d_MO_sums_167 : decode b_MO_sums 167 = .ok (.iload_n 1, 1) := by decide +kernel
theorem d_MO_sums_168 : decode b_MO_sums 168 = .ok (.bipush 42, 2) := by decide +kernel
theorem d_MO_sums_170 : decode b_MO_sums 170 = .ok (.if_icmp .eq 9, 3) := by decide +kernel
theorem d_MO_sums_173 : decode b_MO_sums 173 = .ok (.iload_n 1, 1) := by decide +kernel
theorem d_MO_sums_174 : decode b_MO_sums 174 = .ok (.bipush 43, 2) := by decide +kernel
theorem d_MO_sums_176 : decode b_MO_sums 176 = .ok (.if_icmp .ne 40, 3) := by decide +kernel
theorem d_MO_sums_179 : decode b_MO_sums 179 = .ok (.aload_n 0, 1) := by decide +kernel
theorem d_MO_sums_180 : decode b_MO_sums 180 = .ok (.iload_n 2, 1) := by decide +kernel
theorem d_MO_sums_181 : decode b_MO_sums 181 = .ok (.iload_n 1, 1) := by decide +kernel
theorem d_MO_sums_182 : decode b_MO_sums 182 = .ok (.bipush 42, 2) := by decide +kernel
theorem d_MO_sums_184 : decode b_MO_sums 184 = .ok (.if_icmp .ne 12, 3) := by decide +kernel
theorem d_MO_sums_187 : decode b_MO_sums 187 = .ok (.iload_n 3, 1) := by decide +kernel
theorem d_MO_sums_188 : decode b_MO_sums 188 = .ok (.iload 4, 2) := by decide +kernel
theorem d_MO_sums_190 : decode b_MO_sums 190 = .ok (.if_icmp .ge 19, 3) := by decide +kernel
theorem d_MO_sums_193 : decode b_MO_sums 193 = .ok (.goto 12, 3) := by decide +kernel
theorem d_MO_sums_196 : decode b_MO_sums 196 = .ok (.iload_n 3, 1) := by decide +kernel
theorem d_MO_sums_197 : decode b_MO_sums 197 = .ok (.iload 4, 2) := by decide +kernel
theorem d_MO_sums_199 : decode b_MO_sums 199 = .ok (.invokestatic 228, 3) := by decide +kernel
theorem d_MO_sums_202 : decode b_MO_sums 202 = .ok (.ifCond .eq 7, 3) := by decide +kernel
theorem d_MO_sums_205 : decode b_MO_sums 205 = .ok (.iconst 1, 1) := by decide +kernel
theorem d_MO_sums_206 : decode b_MO_sums 206 = .ok (.goto 4, 3) := by decide +kernel
theorem d_MO_sums_209 : decode b_MO_sums 209 = .ok (.iconst 0, 1) := by decide +kernel
theorem d_MO_sums_210 : decode b_MO_sums 210 = .ok (.invokevirtual 78, 3) := by decide +kernel
theorem d_MO_sums_213 : decode b_MO_sums 213 = .ok (.goto 10, 3) := by decide +kernel
theorem d_MO_sums_216 : decode b_MO_sums 216 = .ok (.aload_n 0, 1) := by decide +kernel
theorem d_MO_sums_217 : decode b_MO_sums 217 = .ok (.bipush 10, 2) := by decide +kernel
theorem d_MO_sums_219 : decode b_MO_sums 219 = .ok (.invokevirtual 196, 3) := by decide +kernel
theorem d_MO_sums_222 : decode b_MO_sums 222 = .ok (.pop, 1) := by decide +kernel
theorem d_MO_sums_223 : decode b_MO_sums 223 = .ok (.return_, 1) := by decide +kernel
set_option maxHeartbeats 4000000 in
set_option maxRecDepth 100000 in
theorem c_MO_sums (l : Launch) (E : Ev) (ad : Nat → Nat) (σ : MS) (a1 : Int32) (a2 : Int32) (a3 : Int32) (a4 : Int32) (h1 : vp_in a2 32) : rC xCl l E (mW E ad) y_MO_sums b_MO_sums 7 (Option.none : Option Jvm.ClassFile.FieldType) (rmo 1 22) [.ref (ad 0), .int a1, .int a2, .int a3, .int a4] σ (zV (f_MO_sums σ a1 a2 a3 a4)) := by
  refine rC.of (by decide) (Nat.le_of_ble_eq_true rfl) ?_
  intro p e s m below meth c A ls hc w hl
  generalize e0 : zV (f_MO_sums σ a1 a2 a3 a4) = Z
  have hc : Cx xCl E A p s m ([.ref (ad 0), .int a1, .int a2, .int a3, .int a4] : List Value).toArray meth c b_MO_sums 7 (Option.none : Option Jvm.ClassFile.FieldType) "PageMachineModel" := hc
  have hx := hc.1
  have hb := hc.2.1
  have ho := hc.2.2.2.2.2.1
  have hT := hc.2.2.2.2.2.2.1
  have hl : lv_has ls 7 [(0, .ref (ad 0)), (1, .int a1), (2, .int a2), (3, .int a3), (4, .int a4)] := hl
  have J35 : ∀ (v35_5 : Int64) (H : Heap) (locs : List Loc) (ls : Array Slot), Wd xCl E A s.heap H locs (mW E ad σ) → lv_has ls 7 [(5, .long v35_5), (0, .ref (ad 0)), (2, .int a2)] → zV (f_MO_sums_35 σ a1 a2 a3 a4 v35_5) = Z → W p l e (rmo 1 22) s m ([.ref (ad 0), .int a1, .int a2, .int a3, .int a4] : List Value).toArray below meth c H locs 0 0 (MQ below (rQ xCl (mW E ad) E A Z) ([.ref (ad 0), .int a1, .int a2, .int a3, .int a4] : List Value).toArray s 0 0 A) (F0 m 35 ls []) := by
    intro v35_5 H locs ls w hl e35
    refine lv_lload hx hb d_MO_sums_35 (lv_at hl 0 rfl) ?_
    refine lv_lload hx hb d_MO_sums_37 (lv_at hl 0 rfl) ?_
    refine lv_l2i hx hb d_MO_sums_39 rfl ?_
    refine lv_i2l hx hb d_MO_sums_40 rfl ?_
    refine W.lcmp hx hb d_MO_sums_41 ?_
    refine lv_if_eq (tgt := 55) hx hb d_MO_sums_42 (by decide) (fun q42 => ?_) (fun q42 => ?_)
    · refine lv_aload_n hx hb d_MO_sums_55 rfl (lv_at hl 1 rfl) ?_
      refine lv_iload_n hx hb d_MO_sums_56 rfl (lv_at hl 2 rfl) ?_
      refine lv_lload hx hb d_MO_sums_57 (lv_at hl 0 rfl) ?_
      refine lv_l2i hx hb d_MO_sums_59 rfl ?_
      refine cVV (rest := []) hc w (c_MO_put l E ad σ a2 (Int64.toInt32 v35_5) h1) kv_MO_put mw_1000 0 rfl rfl ⟨Nat.le_of_ble_eq_true rfl, Nat.le_of_ble_eq_true rfl⟩ hl.1 rfl (Nat.le_of_ble_eq_true rfl) ⟨Nat.zero_le _, Nat.zero_le _⟩ d_MO_sums_60 (fun z60 H locs hs60 w => ?_)
      have e_c5 : zV (f_MO_sums_c5 z60 a1 a2 a3 a4 ) = Z := by rw [← e35, f_MO_sums_35, if_pos q42, hs60]
      refine lv_goto (tgt := 223) hx hb d_MO_sums_63 (by decide) ?_
      exact rt_v hc w d_MO_sums_223 (by rw [← e_c5, f_MO_sums_c5] <;> rfl)
    · refine lv_aload_n hx hb d_MO_sums_45 rfl (lv_at hl 1 rfl) ?_
      refine lv_bipush (v := 12) hx hb d_MO_sums_46 (by decide) ?_
      refine cVI (rest := []) hc w (c_MO_raise l E ad σ (12 : Int32)) kv_MO_raise mw_1079 0 rfl rfl ⟨Nat.le_of_ble_eq_true rfl, Nat.le_of_ble_eq_true rfl⟩ hl.1 rfl (Nat.le_of_ble_eq_true rfl) ⟨Nat.zero_le _, Nat.zero_le _⟩ d_MO_sums_48 (fun z48 H locs hs48 w => ?_)
      have e_c6 : zV (f_MO_sums_c6 z48 a1 a2 a3 a4 ) = Z := by rw [← e35, f_MO_sums_35, if_neg q42, hs48]
      refine lv_pop hx hb d_MO_sums_51 rfl ?_
      refine lv_goto (tgt := 223) hx hb d_MO_sums_52 (by decide) ?_
      exact rt_v hc w d_MO_sums_223 (by rw [← e_c6, f_MO_sums_c6] <;> rfl)
  have J97 : ∀ (w97_2 : Int32) (H : Heap) (locs : List Loc) (ls : Array Slot), Wd xCl E A s.heap H locs (mW E ad σ) → lv_has ls 7 [] → zV (f_MO_sums_97 σ a1 a2 a3 a4 w97_2) = Z → W p l e (rmo 1 22) s m ([.ref (ad 0), .int a1, .int a2, .int a3, .int a4] : List Value).toArray below meth c H locs 0 0 (MQ below (rQ xCl (mW E ad) E A Z) ([.ref (ad 0), .int a1, .int a2, .int a3, .int a4] : List Value).toArray s 0 0 A) (F0 m 97 ls [.int w97_2, .int a2, .ref (ad 0)]) := by
    intro w97_2 H locs ls w hl e97
    refine cVV (rest := []) hc w (c_MO_put l E ad σ a2 w97_2 h1) kv_MO_put mw_1000 0 rfl rfl ⟨Nat.le_of_ble_eq_true rfl, Nat.le_of_ble_eq_true rfl⟩ hl.1 rfl (Nat.le_of_ble_eq_true rfl) ⟨Nat.zero_le _, Nat.zero_le _⟩ d_MO_sums_97 (fun z97 H locs hs97 w => ?_)
    have e_c4 : zV (f_MO_sums_c4 z97 a1 a2 a3 a4 ) = Z := by rw [← e97, f_MO_sums_97, hs97]
    refine lv_goto (tgt := 223) hx hb d_MO_sums_100 (by decide) ?_
    exact rt_v hc w d_MO_sums_223 (by rw [← e_c4, f_MO_sums_c4] <;> rfl)
  have J78 : ∀ (H : Heap) (locs : List Loc) (ls : Array Slot), Wd xCl E A s.heap H locs (mW E ad σ) → lv_has ls 7 [(0, .ref (ad 0)), (1, .int a1), (2, .int a2), (3, .int a3), (4, .int a4)] → zV (f_MO_sums_78 σ a1 a2 a3 a4) = Z → W p l e (rmo 1 22) s m ([.ref (ad 0), .int a1, .int a2, .int a3, .int a4] : List Value).toArray below meth c H locs 0 0 (MQ below (rQ xCl (mW E ad) E A Z) ([.ref (ad 0), .int a1, .int a2, .int a3, .int a4] : List Value).toArray s 0 0 A) (F0 m 78 ls []) := by
    intro  H locs ls w hl e78
    refine lv_aload_n hx hb d_MO_sums_78 rfl (lv_at hl 0 rfl) ?_
    refine lv_iload_n hx hb d_MO_sums_79 rfl (lv_at hl 2 rfl) ?_
    refine lv_iload_n hx hb d_MO_sums_80 rfl (lv_at hl 1 rfl) ?_
    refine lv_bipush (v := 33) hx hb d_MO_sums_81 (by decide) ?_
    refine lv_icmp_ne (tgt := 93) hx hb d_MO_sums_83 (by decide) (fun q83 => ?_) (fun q83 => ?_)
    · refine lv_iload_n hx hb d_MO_sums_93 rfl (lv_at hl 3 rfl) ?_
      refine lv_iload hx hb d_MO_sums_94 (lv_at hl 4 rfl) ?_
      refine lv_isub hx hb d_MO_sums_96 ?_
      exact J97 (a3 - a4) _ _ _ w (lv_sub hl [] rfl) (by rw [← e78, f_MO_sums_78, if_neg q83])
    · refine lv_iload_n hx hb d_MO_sums_86 rfl (lv_at hl 3 rfl) ?_
      refine lv_iload hx hb d_MO_sums_87 (lv_at hl 4 rfl) ?_
      refine lv_iadd hx hb d_MO_sums_89 ?_
      refine lv_goto (tgt := 97) hx hb d_MO_sums_90 (by decide) ?_
      exact J97 (a3 + a4) _ _ _ w (lv_sub hl [] rfl) (by rw [← e78, f_MO_sums_78, if_pos q83])
  have J210 : ∀ (w210_2 : Bool) (H : Heap) (locs : List Loc) (ls : Array Slot), Wd xCl E A s.heap H locs (mW E ad σ) → lv_has ls 7 [] → zV (f_MO_sums_210 σ a1 a2 a3 a4 w210_2) = Z → W p l e (rmo 1 22) s m ([.ref (ad 0), .int a1, .int a2, .int a3, .int a4] : List Value).toArray below meth c H locs 0 0 (MQ below (rQ xCl (mW E ad) E A Z) ([.ref (ad 0), .int a1, .int a2, .int a3, .int a4] : List Value).toArray s 0 0 A) (F0 m 210 ls [.int (zb w210_2), .int a2, .ref (ad 0)]) := by
    intro w210_2 H locs ls w hl e210
    refine cVV (rest := []) hc w (c_MO_put l E ad σ a2 (zb w210_2) h1) kv_MO_put mw_1000 0 rfl rfl ⟨Nat.le_of_ble_eq_true rfl, Nat.le_of_ble_eq_true rfl⟩ hl.1 rfl (Nat.le_of_ble_eq_true rfl) ⟨Nat.zero_le _, Nat.zero_le _⟩ d_MO_sums_210 (fun z210 H locs hs210 w => ?_)
    have e_c3 : zV (f_MO_sums_c3 z210 a1 a2 a3 a4 ) = Z := by rw [← e210, f_MO_sums_210, hs210]
    refine lv_goto (tgt := 223) hx hb d_MO_sums_213 (by decide) ?_
    exact rt_v hc w d_MO_sums_223 (by rw [← e_c3, f_MO_sums_c3] <;> rfl)
  have J209 : ∀ (H : Heap) (locs : List Loc) (ls : Array Slot), Wd xCl E A s.heap H locs (mW E ad σ) → lv_has ls 7 [] → zV (f_MO_sums_209 σ a1 a2 a3 a4) = Z → W p l e (rmo 1 22) s m ([.ref (ad 0), .int a1, .int a2, .int a3, .int a4] : List Value).toArray below meth c H locs 0 0 (MQ below (rQ xCl (mW E ad) E A Z) ([.ref (ad 0), .int a1, .int a2, .int a3, .int a4] : List Value).toArray s 0 0 A) (F0 m 209 ls [.int a2, .ref (ad 0)]) := by
    intro  H locs ls w hl e209
    refine lv_iconst (v := 0) hx hb d_MO_sums_209 (by decide) ?_
    exact J210 false _ _ _ w (lv_sub hl [] rfl) (by rw [← e209, f_MO_sums_209])
  have J205 : ∀ (H : Heap) (locs : List Loc) (ls : Array Slot), Wd xCl E A s.heap H locs (mW E ad σ) → lv_has ls 7 [] → zV (f_MO_sums_205 σ a1 a2 a3 a4) = Z → W p l e (rmo 1 22) s m ([.ref (ad 0), .int a1, .int a2, .int a3, .int a4] : List Value).toArray below meth c H locs 0 0 (MQ below (rQ xCl (mW E ad) E A Z) ([.ref (ad 0), .int a1, .int a2, .int a3, .int a4] : List Value).toArray s 0 0 A) (F0 m 205 ls [.int a2, .ref (ad 0)]) := by
    intro  H locs ls w hl e205
    refine lv_iconst (v := 1) hx hb d_MO_sums_205 (by decide) ?_
    refine lv_goto (tgt := 210) hx hb d_MO_sums_206 (by decide) ?_
    exact J210 true _ _ _ w (lv_sub hl [] rfl) (by rw [← e205, f_MO_sums_205])
  have J179 : ∀ (H : Heap) (locs : List Loc) (ls : Array Slot), Wd xCl E A s.heap H locs (mW E ad σ) → lv_has ls 7 [(0, .ref (ad 0)), (1, .int a1), (2, .int a2), (3, .int a3), (4, .int a4)] → zV (f_MO_sums_179 σ a1 a2 a3 a4) = Z → W p l e (rmo 1 22) s m ([.ref (ad 0), .int a1, .int a2, .int a3, .int a4] : List Value).toArray below meth c H locs 0 0 (MQ below (rQ xCl (mW E ad) E A Z) ([.ref (ad 0), .int a1, .int a2, .int a3, .int a4] : List Value).toArray s 0 0 A) (F0 m 179 ls []) := by
    intro  H locs ls w hl e179
    refine lv_aload_n hx hb d_MO_sums_179 rfl (lv_at hl 0 rfl) ?_
    refine lv_iload_n hx hb d_MO_sums_180 rfl (lv_at hl 2 rfl) ?_
    refine lv_iload_n hx hb d_MO_sums_181 rfl (lv_at hl 1 rfl) ?_
    refine lv_bipush (v := 42) hx hb d_MO_sums_182 (by decide) ?_
    refine lv_icmp_ne (tgt := 196) hx hb d_MO_sums_184 (by decide) (fun q184 => ?_) (fun q184 => ?_)
    · refine lv_iload_n hx hb d_MO_sums_196 rfl (lv_at hl 3 rfl) ?_
      refine lv_iload hx hb d_MO_sums_197 (lv_at hl 4 rfl) ?_
      refine rSZ (rest := [.int a2, .ref (ad 0)]) hc w (c_MO_isBelow l E ad σ a3 a4) ks_MO_isBelow mw_1111 ⟨Nat.le_of_ble_eq_true rfl, Nat.le_of_ble_eq_true rfl⟩ hl.1 rfl (Nat.le_of_ble_eq_true rfl) ⟨Nat.zero_le _, Nat.zero_le _⟩ d_MO_sums_199 (fun H locs w => ?_)
      refine lv_if_eq (tgt := 209) hx hb d_MO_sums_202 (by decide) (fun q202 => ?_) (fun q202 => ?_)
      · exact J209  _ _ _ w (lv_sub hl [] rfl) (by rw [← e179, f_MO_sums_179, if_neg q184, if_pos q202])
      · exact J205  _ _ _ w (lv_sub hl [] rfl) (by rw [← e179, f_MO_sums_179, if_neg q184, if_neg q202])
    · refine lv_iload_n hx hb d_MO_sums_187 rfl (lv_at hl 3 rfl) ?_
      refine lv_iload hx hb d_MO_sums_188 (lv_at hl 4 rfl) ?_
      refine lv_icmp_ge (tgt := 209) hx hb d_MO_sums_190 (by decide) (fun q190 => ?_) (fun q190 => ?_)
      · exact J209  _ _ _ w (lv_sub hl [] rfl) (by rw [← e179, f_MO_sums_179, if_pos q184, if_pos q190])
      · refine lv_goto (tgt := 205) hx hb d_MO_sums_193 (by decide) ?_
        exact J205  _ _ _ w (lv_sub hl [] rfl) (by rw [← e179, f_MO_sums_179, if_pos q184, if_neg q190])
  have J161 : ∀ (w161_2 : Int32) (H : Heap) (locs : List Loc) (ls : Array Slot), Wd xCl E A s.heap H locs (mW E ad σ) → lv_has ls 7 [] → zV (f_MO_sums_161 σ a1 a2 a3 a4 w161_2) = Z → W p l e (rmo 1 22) s m ([.ref (ad 0), .int a1, .int a2, .int a3, .int a4] : List Value).toArray below meth c H locs 0 0 (MQ below (rQ xCl (mW E ad) E A Z) ([.ref (ad 0), .int a1, .int a2, .int a3, .int a4] : List Value).toArray s 0 0 A) (F0 m 161 ls [.int w161_2, .int a2, .ref (ad 0)]) := by
    intro w161_2 H locs ls w hl e161
    refine cVV (rest := []) hc w (c_MO_put l E ad σ a2 w161_2 h1) kv_MO_put mw_1000 0 rfl rfl ⟨Nat.le_of_ble_eq_true rfl, Nat.le_of_ble_eq_true rfl⟩ hl.1 rfl (Nat.le_of_ble_eq_true rfl) ⟨Nat.zero_le _, Nat.zero_le _⟩ d_MO_sums_161 (fun z161 H locs hs161 w => ?_)
    have e_c2 : zV (f_MO_sums_c2 z161 a1 a2 a3 a4 ) = Z := by rw [← e161, f_MO_sums_161, hs161]
    refine lv_goto (tgt := 223) hx hb d_MO_sums_164 (by decide) ?_
    exact rt_v hc w d_MO_sums_223 (by rw [← e_c2, f_MO_sums_c2] <;> rfl)
  have J21 : ∀ (w21_0 : Int64) (H : Heap) (locs : List Loc) (ls : Array Slot), Wd xCl E A s.heap H locs (mW E ad σ) → lv_has ls 7 [(0, .ref (ad 0)), (1, .int a1), (2, .int a2), (3, .int a3), (4, .int a4)] → zV (f_MO_sums_21 σ a1 a2 a3 a4 w21_0) = Z → W p l e (rmo 1 22) s m ([.ref (ad 0), .int a1, .int a2, .int a3, .int a4] : List Value).toArray below meth c H locs 0 0 (MQ below (rQ xCl (mW E ad) E A Z) ([.ref (ad 0), .int a1, .int a2, .int a3, .int a4] : List Value).toArray s 0 0 A) (F0 m 21 ls [.long w21_0]) := by
    intro w21_0 H locs ls w hl e21
    refine lv_lstore (lv' := [(5, .long w21_0), (0, .ref (ad 0)), (1, .int a1), (2, .int a2), (3, .int a3), (4, .int a4)]) hx hb d_MO_sums_21 hl (by decide) rfl (fun ls hl => ?_)
    refine lv_iload_n hx hb d_MO_sums_23 rfl (lv_at hl 2 rfl) ?_
    refine lv_bipush (v := 32) hx hb d_MO_sums_24 (by decide) ?_
    refine lv_icmp_eq (tgt := 35) hx hb d_MO_sums_26 (by decide) (fun q26 => ?_) (fun q26 => ?_)
    · exact J35 w21_0 _ _ _ w (lv_sub hl [0, 1, 3] rfl) (by rw [← e21, f_MO_sums_21, if_pos q26])
    · refine lv_iload_n hx hb d_MO_sums_29 rfl (lv_at hl 2 rfl) ?_
      refine lv_bipush (v := 34) hx hb d_MO_sums_30 (by decide) ?_
      refine lv_icmp_ne (tgt := 66) hx hb d_MO_sums_32 (by decide) (fun q32 => ?_) (fun q32 => ?_)
      · refine lv_iload_n hx hb d_MO_sums_66 rfl (lv_at hl 2 rfl) ?_
        refine lv_bipush (v := 33) hx hb d_MO_sums_67 (by decide) ?_
        refine lv_icmp_eq (tgt := 78) hx hb d_MO_sums_69 (by decide) (fun q69 => ?_) (fun q69 => ?_)
        · exact J78  _ _ _ w (lv_sub hl [1, 2, 3, 4, 5] rfl) (by rw [← e21, f_MO_sums_21, if_neg q26, if_neg q32, if_pos q69])
        · refine lv_iload_n hx hb d_MO_sums_72 rfl (lv_at hl 2 rfl) ?_
          refine lv_bipush (v := 35) hx hb d_MO_sums_73 (by decide) ?_
          refine lv_icmp_ne (tgt := 103) hx hb d_MO_sums_75 (by decide) (fun q75 => ?_) (fun q75 => ?_)
          · refine lv_iload_n hx hb d_MO_sums_103 rfl (lv_at hl 2 rfl) ?_
            refine lv_bipush (v := 36) hx hb d_MO_sums_104 (by decide) ?_
            refine lv_bipush (v := 39) hx hb d_MO_sums_106 (by decide) ?_
            refine rSZ (rest := []) hc w (c_MO_within l E ad σ a1 (36 : Int32) (39 : Int32)) ks_MO_within mw_976 ⟨Nat.le_of_ble_eq_true rfl, Nat.le_of_ble_eq_true rfl⟩ hl.1 rfl (Nat.le_of_ble_eq_true rfl) ⟨Nat.zero_le _, Nat.zero_le _⟩ d_MO_sums_108 (fun H locs w => ?_)
            refine lv_if_eq (tgt := 167) hx hb d_MO_sums_111 (by decide) (fun q111 => ?_) (fun q111 => ?_)
            · refine lv_iload_n hx hb d_MO_sums_167 rfl (lv_at hl 2 rfl) ?_
              refine lv_bipush (v := 42) hx hb d_MO_sums_168 (by decide) ?_
              refine lv_icmp_eq (tgt := 179) hx hb d_MO_sums_170 (by decide) (fun q170 => ?_) (fun q170 => ?_)
              · exact J179  _ _ _ w (lv_sub hl [1, 2, 3, 4, 5] rfl) (by rw [← e21, f_MO_sums_21, if_neg q26, if_neg q32, if_neg q69, if_neg q75, if_pos q111, if_pos q170])
              · refine lv_iload_n hx hb d_MO_sums_173 rfl (lv_at hl 2 rfl) ?_
                refine lv_bipush (v := 43) hx hb d_MO_sums_174 (by decide) ?_
                refine lv_icmp_ne (tgt := 216) hx hb d_MO_sums_176 (by decide) (fun q176 => ?_) (fun q176 => ?_)
                · refine lv_aload_n hx hb d_MO_sums_216 rfl (lv_at hl 1 rfl) ?_
                  refine lv_bipush (v := 10) hx hb d_MO_sums_217 (by decide) ?_
                  refine cVI (rest := []) hc w (c_MO_raise l E ad σ (10 : Int32)) kv_MO_raise mw_1079 0 rfl rfl ⟨Nat.le_of_ble_eq_true rfl, Nat.le_of_ble_eq_true rfl⟩ hl.1 rfl (Nat.le_of_ble_eq_true rfl) ⟨Nat.zero_le _, Nat.zero_le _⟩ d_MO_sums_219 (fun z219 H locs hs219 w => ?_)
                  have e_c1 : zV (f_MO_sums_c1 z219 a1 a2 a3 a4 ) = Z := by rw [← e21, f_MO_sums_21, if_neg q26, if_neg q32, if_neg q69, if_neg q75, if_pos q111, if_neg q170, if_neg q176, hs219]
                  refine lv_pop hx hb d_MO_sums_222 rfl ?_
                  exact rt_v hc w d_MO_sums_223 (by rw [← e_c1, f_MO_sums_c1] <;> rfl)
                · exact J179  _ _ _ w (lv_sub hl [1, 2, 3, 4, 5] rfl) (by rw [← e21, f_MO_sums_21, if_neg q26, if_neg q32, if_neg q69, if_neg q75, if_pos q111, if_neg q170, if_pos q176])
            · refine lv_aload_n hx hb d_MO_sums_114 rfl (lv_at hl 1 rfl) ?_
              refine lv_iload_n hx hb d_MO_sums_115 rfl (lv_at hl 3 rfl) ?_
              refine lv_iload_n hx hb d_MO_sums_116 rfl (lv_at hl 2 rfl) ?_
              refine lv_bipush (v := 36) hx hb d_MO_sums_117 (by decide) ?_
              refine lv_icmp_ne (tgt := 129) hx hb d_MO_sums_119 (by decide) (fun q119 => ?_) (fun q119 => ?_)
              · refine lv_iload_n hx hb d_MO_sums_129 rfl (lv_at hl 2 rfl) ?_
                refine lv_bipush (v := 37) hx hb d_MO_sums_130 (by decide) ?_
                refine lv_icmp_ne (tgt := 142) hx hb d_MO_sums_132 (by decide) (fun q132 => ?_) (fun q132 => ?_)
                · refine lv_iload_n hx hb d_MO_sums_142 rfl (lv_at hl 2 rfl) ?_
                  refine lv_bipush (v := 38) hx hb d_MO_sums_143 (by decide) ?_
                  refine lv_icmp_ne (tgt := 155) hx hb d_MO_sums_145 (by decide) (fun q145 => ?_) (fun q145 => ?_)
                  · refine lv_iload_n hx hb d_MO_sums_155 rfl (lv_at hl 4 rfl) ?_
                    refine lv_iload hx hb d_MO_sums_156 (lv_at hl 5 rfl) ?_
                    refine lv_ior hx hb d_MO_sums_158 ?_
                    refine lv_iconst (v := -1) hx hb d_MO_sums_159 (by decide) ?_
                    refine lv_ixor hx hb d_MO_sums_160 ?_
                    exact J161 ((a3 ||| a4) ^^^ (-1 : Int32)) _ _ _ w (lv_sub hl [] rfl) (by rw [← e21, f_MO_sums_21, if_neg q26, if_neg q32, if_neg q69, if_neg q75, if_neg q111, if_neg q119, if_neg q132, if_neg q145])
                  · refine lv_iload_n hx hb d_MO_sums_148 rfl (lv_at hl 4 rfl) ?_
                    refine lv_iload hx hb d_MO_sums_149 (lv_at hl 5 rfl) ?_
                    refine lv_ixor hx hb d_MO_sums_151 ?_
                    refine lv_goto (tgt := 161) hx hb d_MO_sums_152 (by decide) ?_
                    exact J161 (a3 ^^^ a4) _ _ _ w (lv_sub hl [] rfl) (by rw [← e21, f_MO_sums_21, if_neg q26, if_neg q32, if_neg q69, if_neg q75, if_neg q111, if_neg q119, if_neg q132, if_pos q145])
                · refine lv_iload_n hx hb d_MO_sums_135 rfl (lv_at hl 4 rfl) ?_
                  refine lv_iload hx hb d_MO_sums_136 (lv_at hl 5 rfl) ?_
                  refine lv_ior hx hb d_MO_sums_138 ?_
                  refine lv_goto (tgt := 161) hx hb d_MO_sums_139 (by decide) ?_
                  exact J161 (a3 ||| a4) _ _ _ w (lv_sub hl [] rfl) (by rw [← e21, f_MO_sums_21, if_neg q26, if_neg q32, if_neg q69, if_neg q75, if_neg q111, if_neg q119, if_pos q132])
              · refine lv_iload_n hx hb d_MO_sums_122 rfl (lv_at hl 4 rfl) ?_
                refine lv_iload hx hb d_MO_sums_123 (lv_at hl 5 rfl) ?_
                refine lv_iand hx hb d_MO_sums_125 ?_
                refine lv_goto (tgt := 161) hx hb d_MO_sums_126 (by decide) ?_
                exact J161 (a3 &&& a4) _ _ _ w (lv_sub hl [] rfl) (by rw [← e21, f_MO_sums_21, if_neg q26, if_neg q32, if_neg q69, if_neg q75, if_neg q111, if_pos q119])
          · exact J78  _ _ _ w (lv_sub hl [1, 2, 3, 4, 5] rfl) (by rw [← e21, f_MO_sums_21, if_neg q26, if_neg q32, if_neg q69, if_pos q75])
      · exact J35 w21_0 _ _ _ w (lv_sub hl [0, 1, 3] rfl) (by rw [← e21, f_MO_sums_21, if_neg q26, if_pos q32])
  refine lv_iload_n hx hb d_MO_sums_0 rfl (lv_at hl 1 rfl) ?_
  refine lv_bipush (v := 32) hx hb d_MO_sums_1 (by decide) ?_
  refine lv_icmp_ne (tgt := 15) hx hb d_MO_sums_3 (by decide) (fun q3 => ?_) (fun q3 => ?_)
  · refine lv_iload_n hx hb d_MO_sums_15 rfl (lv_at hl 3 rfl) ?_
    refine lv_i2l hx hb d_MO_sums_16 rfl ?_
    refine lv_iload hx hb d_MO_sums_17 (lv_at hl 4 rfl) ?_
    refine lv_i2l hx hb d_MO_sums_19 rfl ?_
    refine lv_lsub hx hb d_MO_sums_20 ?_
    exact J21 ((Int32.toInt64 a3) - (Int32.toInt64 a4)) _ _ _ w (lv_sub hl [0, 1, 2, 3, 4] rfl) (by rw [← e0, f_MO_sums, if_neg q3])
  · refine lv_iload_n hx hb d_MO_sums_6 rfl (lv_at hl 3 rfl) ?_
    refine lv_i2l hx hb d_MO_sums_7 rfl ?_
    refine lv_iload hx hb d_MO_sums_8 (lv_at hl 4 rfl) ?_
    refine lv_i2l hx hb d_MO_sums_10 rfl ?_
    refine lv_ladd hx hb d_MO_sums_11 ?_
    refine lv_goto (tgt := 21) hx hb d_MO_sums_12 (by decide) ?_
    exact J21 ((Int32.toInt64 a3) + (Int32.toInt64 a4)) _ _ _ w (lv_sub hl [0, 1, 2, 3, 4] rfl) (by rw [← e0, f_MO_sums, if_pos q3])
-- MO_trap
def f_MO_trap_c2 (z117 : MS × Int32) (a1 : Int32) (a2 : Int32) (a3 : Int32)  : MS := z117.1
def f_MO_trap_114 (σ : MS) (a1 : Int32) (a2 : Int32) (a3 : Int32) : MS := f_MO_trap_c2 (f_MO_raise σ (10 : Int32)) a1 a2 a3 
def f_MO_trap_c1 (z132 : MS × Int32) (a1 : Int32) (a2 : Int32) (a3 : Int32)  : MS := z132.1
def f_MO_trap_97 (σ : MS) (a1 : Int32) (a2 : Int32) (a3 : Int32) (w97_0 : Bool) : MS := if a1 < 0 then (f_MO_trap_114 σ a1 a2 a3) else (if a1 = (5 : Int32) then (f_MO_trap_114 σ a1 a2 a3) else (if a1 ≤ (6 : Int32) then (if (zb w97_0) = 0 then (σ) else (f_MO_trap_c1 (f_MO_raise σ (13 : Int32)) a1 a2 a3 )) else (f_MO_trap_114 σ a1 a2 a3)))
def f_MO_trap (σ : MS) (a1 : Int32) (a2 : Int32) (a3 : Int32) : MS := if a1 = 0 then (if a2 < a3 then (f_MO_trap_97 σ a1 a2 a3 false) else (f_MO_trap_97 σ a1 a2 a3 true)) else (if a1 = (1 : Int32) then (if (zb (f_MO_isBelow σ a2 a3)) = 0 then (f_MO_trap_97 σ a1 a2 a3 true) else (f_MO_trap_97 σ a1 a2 a3 false)) else (if a1 = (2 : Int32) then (if a3 ≤ a2 then (f_MO_trap_97 σ a1 a2 a3 false) else (f_MO_trap_97 σ a1 a2 a3 true)) else (if a1 = (3 : Int32) then (f_MO_trap_97 σ a1 a2 a3 (f_MO_isBelow σ a2 a3)) else (if a1 = (4 : Int32) then (if a2 = a3 then (f_MO_trap_97 σ a1 a2 a3 true) else (f_MO_trap_97 σ a1 a2 a3 false)) else (if a2 = a3 then (f_MO_trap_97 σ a1 a2 a3 false) else (f_MO_trap_97 σ a1 a2 a3 true))))))
theorem d_MO_trap_0 : decode b_MO_trap 0 = .ok (.iload_n 1, 1) := by decide +kernel
theorem d_MO_trap_1 : decode b_MO_trap 1 = .ok (.ifCond .ne 16, 3) := by decide +kernel
theorem d_MO_trap_4 : decode b_MO_trap 4 = .ok (.iload_n 2, 1) := by decide +kernel
theorem d_MO_trap_5 : decode b_MO_trap 5 = .ok (.iload_n 3, 1) := by decide +kernel
theorem d_MO_trap_6 : decode b_MO_trap 6 = .ok (.if_icmp .lt 7, 3) := by decide +kernel
theorem d_MO_trap_9 : decode b_MO_trap 9 = .ok (.iconst 1, 1) := by decide +kernel
theorem d_MO_trap_10 : decode b_MO_trap 10 = .ok (.goto 87, 3) := by decide +kernel
theorem d_MO_trap_13 : decode b_MO_trap 13 = .ok (.iconst 0, 1) := by decide +kernel
theorem d_MO_trap_14 : decode b_MO_trap 14 = .ok (.goto 83, 3) := by decide +kernel
theorem d_MO_trap_17 : decode b_MO_trap 17 = .ok (.iload_n 1, 1) := by decide +kernel
theorem d_MO_trap_18 : decode b_MO_trap 18 = .ok (.iconst 1, 1) := by decide +kernel
theorem d_MO_trap_19 : decode b_MO_trap 19 = .ok (.if_icmp .ne 19, 3) := by decide +kernel
theorem d_MO_trap_22 : decode b_MO_trap 22 = .ok (.iload_n 2, 1) := by decide +kernel
theorem d_MO_trap_23 : decode b_MO_trap 23 = .ok (.iload_n 3, 1) := by decide +kernel
theorem d_MO_trap_24 : decode b_MO_trap 24 = .ok (.invokestatic 228, 3) := by decide +kernel
theorem d_MO_trap_27 : decode b_MO_trap 27 = .ok (.ifCond .ne 7, 3) := by decide +kernel
theorem d_MO_trap_30 : decode b_MO_trap 30 = .ok (.iconst 1, 1) := by decide +kernel
theorem d_MO_trap_31 : decode b_MO_trap 31 = .ok (.goto 66, 3) := by decide +kernel
theorem d_MO_trap_34 : decode b_MO_trap 34 = .ok (.iconst 0, 1) := by decide +kernel
theorem d_MO_trap_35 : decode b_MO_trap 35 = .ok (.goto 62, 3) := by decide +kernel
theorem d_MO_trap_38 : decode b_MO_trap 38 = .ok (.iload_n 1, 1) := by decide +kernel
theorem d_MO_trap_39 : decode b_MO_trap 39 = .ok (.iconst 2, 1) := by decide +kernel
theorem d_MO_trap_40 : decode b_MO_trap 40 = .ok (.if_icmp .ne 16, 3) := by decide +kernel
theorem d_MO_trap_43 : decode b_MO_trap 43 = .ok (.iload_n 2, 1) := by decide +kernel
theorem d_MO_trap_44 : decode b_MO_trap 44 = .ok (.iload_n 3, 1) := by decide +kernel
theorem d_MO_trap_45 : decode b_MO_trap 45 = .ok (.if_icmp .ge 7, 3) := by decide +kernel
theorem d_MO_trap_48 : decode b_MO_trap 48 = .ok (.iconst 1, 1) := by decide +kernel
theorem d_MO_trap_49 : decode b_MO_trap 49 = .ok (.goto 48, 3) := by decide +kernel
theorem d_MO_trap_52 : decode b_MO_trap 52 = .ok (.iconst 0, 1) := by decide +kernel
theorem d_MO_trap_53 : decode b_MO_trap 53 = .ok (.goto 44, 3) := by decide +kernel
theorem d_MO_trap_56 : decode b_MO_trap 56 = .ok (.iload_n 1, 1) := by decide +kernel
theorem d_MO_trap_57 : decode b_MO_trap 57 = .ok (.iconst 3, 1) := by decide +kernel
theorem d_MO_trap_58 : decode b_MO_trap 58 = .ok (.if_icmp .ne 11, 3) := by decide +kernel
theorem d_MO_trap_61 : decode b_MO_trap 61 = .ok (.iload_n 2, 1) := by decide +kernel
theorem d_MO_trap_62 : decode b_MO_trap 62 = .ok (.iload_n 3, 1) := by decide +kernel
theorem d_MO_trap_63 : decode b_MO_trap 63 = .ok (.invokestatic 228, 3) := by decide +kernel
theorem d_MO_trap_66 : decode b_MO_trap 66 = .ok (.goto 31, 3) := by decide +kernel
theorem d_MO_trap_69 : decode b_MO_trap 69 = .ok (.iload_n 1, 1) := by decide +kernel
theorem d_MO_trap_70 : decode b_MO_trap 70 = .ok (.iconst 4, 1) := by decide +kernel
theorem d_MO_trap_71 : decode b_MO_trap 71 = .ok (.if_icmp .ne 16, 3) := by decide +kernel
theorem d_MO_trap_74 : decode b_MO_trap 74 = .ok (.iload_n 2, 1) := by decide +kernel
theorem d_MO_trap_75 : decode b_MO_trap 75 = .ok (.iload_n 3, 1) := by decide +kernel
theorem d_MO_trap_76 : decode b_MO_trap 76 = .ok (.if_icmp .ne 7, 3) := by decide +kernel
theorem d_MO_trap_79 : decode b_MO_trap 79 = .ok (.iconst 1, 1) := by decide +kernel
theorem d_MO_trap_80 : decode b_MO_trap 80 = .ok (.goto 17, 3) := by decide +kernel
theorem d_MO_trap_83 : decode b_MO_trap 83 = .ok (.iconst 0, 1) := by decide +kernel
theorem d_MO_trap_84 : decode b_MO_trap 84 = .ok (.goto 13, 3) := by decide +kernel
theorem d_MO_trap_87 : decode b_MO_trap 87 = .ok (.iload_n 2, 1) := by decide +kernel
theorem d_MO_trap_88 : decode b_MO_trap 88 = .ok (.iload_n 3, 1) := by decide +kernel
theorem d_MO_trap_89 : decode b_MO_trap 89 = .ok (.if_icmp .eq 7, 3) := by decide +kernel
theorem d_MO_trap_92 : decode b_MO_trap 92 = .ok (.iconst 1, 1) := by decide +kernel
theorem d_MO_trap_93 : decode b_MO_trap 93 = .ok (.goto 4, 3) := by decide +kernel
theorem d_MO_trap_96 : decode b_MO_trap 96 = .ok (.iconst 0, 1) := by decide +kernel
theorem d_MO_trap_97 : decode b_MO_trap 97 = .ok (.istore 4, 2) := by decide +kernel
theorem d_MO_trap_99 : decode b_MO_trap 99 = .ok (.iload_n 1, 1) := by decide +kernel
theorem d_MO_trap_100 : decode b_MO_trap 100 = .ok (.ifCond .lt 14, 3) := by decide +kernel
theorem d_MO_trap_103 : decode b_MO_trap 103 = .ok (.iload_n 1, 1) := by decide +kernel
theorem d_MO_trap_104 : decode b_MO_trap 104 = .ok (.iconst 5, 1) := by decide +kernel
theorem d_MO_trap_105 : decode b_MO_trap 105 = .ok (.if_icmp .eq 9, 3) := by decide +kernel
theorem d_MO_trap_108 : decode b_MO_trap 108 = .ok (.iload_n 1, 1) := by decide +kernel
theorem d_MO_trap_109 : decode b_MO_trap 109 = .ok (.bipush 6, 2) := by decide +kernel
theorem d_MO_trap_111 : decode b_MO_trap 111 = .ok (.if_icmp .le 13, 3) := by decide +kernel
theorem d_MO_trap_114 : decode b_MO_trap 114 = .ok (.aload_n 0, 1) := by decide +kernel
theorem d_MO_trap_115 : decode b_MO_trap 115 = .ok (.bipush 10, 2) := by decide +kernel
theorem d_MO_trap_117 : decode b_MO_trap 117 = .ok (.invokevirtual 196, 3) := by decide +kernel
theorem d_MO_trap_120 : decode b_MO_trap 120 = .ok (.pop, 1) := by decide +kernel
theorem d_MO_trap_121 : decode b_MO_trap 121 = .ok (.goto 15, 3) := by decide +kernel
theorem d_MO_trap_124 : decode b_MO_trap 124 = .ok (.iload 4, 2) := by decide +kernel
theorem d_MO_trap_126 : decode b_MO_trap 126 = .ok (.ifCond .eq 10, 3) := by decide +kernel
theorem d_MO_trap_129 : decode b_MO_trap 129 = .ok (.aload_n 0, 1) := by decide +kernel
theorem d_MO_trap_130 : decode b_MO_trap 130 = .ok (.bipush 13, 2) := by decide +kernel
theorem d_MO_trap_132 : decode b_MO_trap 132 = .ok (.invokevirtual 196, 3) := by decide +kernel
theorem d_MO_trap_135 : decode b_MO_trap 135 = .ok (.pop, 1) := by decide +kernel
theorem d_MO_trap_136 : decode b_MO_trap 136 = .ok (.return_, 1) := by decide +kernel
set_option maxHeartbeats 4000000 in
set_option maxRecDepth 100000 in
theorem c_MO_trap (l : Launch) (E : Ev) (ad : Nat → Nat) (σ : MS) (a1 : Int32) (a2 : Int32) (a3 : Int32) : rC xCl l E (mW E ad) y_MO_trap b_MO_trap 5 (Option.none : Option Jvm.ClassFile.FieldType) (rmo 1 21) [.ref (ad 0), .int a1, .int a2, .int a3] σ (zV (f_MO_trap σ a1 a2 a3)) := by
  refine rC.of (by decide) (Nat.le_of_ble_eq_true rfl) ?_
  intro p e s m below meth c A ls hc w hl
  generalize e0 : zV (f_MO_trap σ a1 a2 a3) = Z
  have hc : Cx xCl E A p s m ([.ref (ad 0), .int a1, .int a2, .int a3] : List Value).toArray meth c b_MO_trap 5 (Option.none : Option Jvm.ClassFile.FieldType) "PageMachineModel" := hc
  have hx := hc.1
  have hb := hc.2.1
  have ho := hc.2.2.2.2.2.1
  have hT := hc.2.2.2.2.2.2.1
  have hl : lv_has ls 5 [(0, .ref (ad 0)), (1, .int a1), (2, .int a2), (3, .int a3)] := hl
  have J114 : ∀ (H : Heap) (locs : List Loc) (ls : Array Slot), Wd xCl E A s.heap H locs (mW E ad σ) → lv_has ls 5 [(0, .ref (ad 0))] → zV (f_MO_trap_114 σ a1 a2 a3) = Z → W p l e (rmo 1 21) s m ([.ref (ad 0), .int a1, .int a2, .int a3] : List Value).toArray below meth c H locs 0 0 (MQ below (rQ xCl (mW E ad) E A Z) ([.ref (ad 0), .int a1, .int a2, .int a3] : List Value).toArray s 0 0 A) (F0 m 114 ls []) := by
    intro  H locs ls w hl e114
    refine lv_aload_n hx hb d_MO_trap_114 rfl (lv_at hl 0 rfl) ?_
    refine lv_bipush (v := 10) hx hb d_MO_trap_115 (by decide) ?_
    refine cVI (rest := []) hc w (c_MO_raise l E ad σ (10 : Int32)) kv_MO_raise mw_1079 0 rfl rfl ⟨Nat.le_of_ble_eq_true rfl, Nat.le_of_ble_eq_true rfl⟩ hl.1 rfl (Nat.le_of_ble_eq_true rfl) ⟨Nat.zero_le _, Nat.zero_le _⟩ d_MO_trap_117 (fun z117 H locs hs117 w => ?_)
    have e_c2 : zV (f_MO_trap_c2 z117 a1 a2 a3 ) = Z := by rw [← e114, f_MO_trap_114, hs117]
    refine lv_pop hx hb d_MO_trap_120 rfl ?_
    refine lv_goto (tgt := 136) hx hb d_MO_trap_121 (by decide) ?_
    exact rt_v hc w d_MO_trap_136 (by rw [← e_c2, f_MO_trap_c2] <;> rfl)
  have J97 : ∀ (w97_0 : Bool) (H : Heap) (locs : List Loc) (ls : Array Slot), Wd xCl E A s.heap H locs (mW E ad σ) → lv_has ls 5 [(0, .ref (ad 0)), (1, .int a1)] → zV (f_MO_trap_97 σ a1 a2 a3 w97_0) = Z → W p l e (rmo 1 21) s m ([.ref (ad 0), .int a1, .int a2, .int a3] : List Value).toArray below meth c H locs 0 0 (MQ below (rQ xCl (mW E ad) E A Z) ([.ref (ad 0), .int a1, .int a2, .int a3] : List Value).toArray s 0 0 A) (F0 m 97 ls [.int (zb w97_0)]) := by
    intro w97_0 H locs ls w hl e97
    refine lv_istore (lv' := [(4, .int (zb w97_0)), (0, .ref (ad 0)), (1, .int a1)]) hx hb d_MO_trap_97 hl (by decide) rfl (fun ls hl => ?_)
    refine lv_iload_n hx hb d_MO_trap_99 rfl (lv_at hl 2 rfl) ?_
    refine lv_if_lt (tgt := 114) hx hb d_MO_trap_100 (by decide) (fun q100 => ?_) (fun q100 => ?_)
    · exact J114  _ _ _ w (lv_sub hl [1] rfl) (by rw [← e97, f_MO_trap_97, if_pos q100])
    · refine lv_iload_n hx hb d_MO_trap_103 rfl (lv_at hl 2 rfl) ?_
      refine lv_iconst (v := 5) hx hb d_MO_trap_104 (by decide) ?_
      refine lv_icmp_eq (tgt := 114) hx hb d_MO_trap_105 (by decide) (fun q105 => ?_) (fun q105 => ?_)
      · exact J114  _ _ _ w (lv_sub hl [1] rfl) (by rw [← e97, f_MO_trap_97, if_neg q100, if_pos q105])
      · refine lv_iload_n hx hb d_MO_trap_108 rfl (lv_at hl 2 rfl) ?_
        refine lv_bipush (v := 6) hx hb d_MO_trap_109 (by decide) ?_
        refine lv_icmp_le (tgt := 124) hx hb d_MO_trap_111 (by decide) (fun q111 => ?_) (fun q111 => ?_)
        · refine lv_iload hx hb d_MO_trap_124 (lv_at hl 0 rfl) ?_
          refine lv_if_eq (tgt := 136) hx hb d_MO_trap_126 (by decide) (fun q126 => ?_) (fun q126 => ?_)
          · exact rt_v hc w d_MO_trap_136 (by rw [← e97, f_MO_trap_97, if_neg q100, if_neg q105, if_pos q111, if_pos q126] <;> rfl)
          · refine lv_aload_n hx hb d_MO_trap_129 rfl (lv_at hl 1 rfl) ?_
            refine lv_bipush (v := 13) hx hb d_MO_trap_130 (by decide) ?_
            refine cVI (rest := []) hc w (c_MO_raise l E ad σ (13 : Int32)) kv_MO_raise mw_1079 0 rfl rfl ⟨Nat.le_of_ble_eq_true rfl, Nat.le_of_ble_eq_true rfl⟩ hl.1 rfl (Nat.le_of_ble_eq_true rfl) ⟨Nat.zero_le _, Nat.zero_le _⟩ d_MO_trap_132 (fun z132 H locs hs132 w => ?_)
            have e_c1 : zV (f_MO_trap_c1 z132 a1 a2 a3 ) = Z := by rw [← e97, f_MO_trap_97, if_neg q100, if_neg q105, if_pos q111, if_neg q126, hs132]
            refine lv_pop hx hb d_MO_trap_135 rfl ?_
            exact rt_v hc w d_MO_trap_136 (by rw [← e_c1, f_MO_trap_c1] <;> rfl)
        · exact J114  _ _ _ w (lv_sub hl [1] rfl) (by rw [← e97, f_MO_trap_97, if_neg q100, if_neg q105, if_neg q111])
  refine lv_iload_n hx hb d_MO_trap_0 rfl (lv_at hl 1 rfl) ?_
  refine lv_if_ne (tgt := 17) hx hb d_MO_trap_1 (by decide) (fun q1 => ?_) (fun q1 => ?_)
  · refine lv_iload_n hx hb d_MO_trap_17 rfl (lv_at hl 1 rfl) ?_
    refine lv_iconst (v := 1) hx hb d_MO_trap_18 (by decide) ?_
    refine lv_icmp_ne (tgt := 38) hx hb d_MO_trap_19 (by decide) (fun q19 => ?_) (fun q19 => ?_)
    · refine lv_iload_n hx hb d_MO_trap_38 rfl (lv_at hl 1 rfl) ?_
      refine lv_iconst (v := 2) hx hb d_MO_trap_39 (by decide) ?_
      refine lv_icmp_ne (tgt := 56) hx hb d_MO_trap_40 (by decide) (fun q40 => ?_) (fun q40 => ?_)
      · refine lv_iload_n hx hb d_MO_trap_56 rfl (lv_at hl 1 rfl) ?_
        refine lv_iconst (v := 3) hx hb d_MO_trap_57 (by decide) ?_
        refine lv_icmp_ne (tgt := 69) hx hb d_MO_trap_58 (by decide) (fun q58 => ?_) (fun q58 => ?_)
        · refine lv_iload_n hx hb d_MO_trap_69 rfl (lv_at hl 1 rfl) ?_
          refine lv_iconst (v := 4) hx hb d_MO_trap_70 (by decide) ?_
          refine lv_icmp_ne (tgt := 87) hx hb d_MO_trap_71 (by decide) (fun q71 => ?_) (fun q71 => ?_)
          · refine lv_iload_n hx hb d_MO_trap_87 rfl (lv_at hl 2 rfl) ?_
            refine lv_iload_n hx hb d_MO_trap_88 rfl (lv_at hl 3 rfl) ?_
            refine lv_icmp_eq (tgt := 96) hx hb d_MO_trap_89 (by decide) (fun q89 => ?_) (fun q89 => ?_)
            · refine lv_iconst (v := 0) hx hb d_MO_trap_96 (by decide) ?_
              exact J97 false _ _ _ w (lv_sub hl [0, 1] rfl) (by rw [← e0, f_MO_trap, if_neg q1, if_neg q19, if_neg q40, if_neg q58, if_neg q71, if_pos q89])
            · refine lv_iconst (v := 1) hx hb d_MO_trap_92 (by decide) ?_
              refine lv_goto (tgt := 97) hx hb d_MO_trap_93 (by decide) ?_
              exact J97 true _ _ _ w (lv_sub hl [0, 1] rfl) (by rw [← e0, f_MO_trap, if_neg q1, if_neg q19, if_neg q40, if_neg q58, if_neg q71, if_neg q89])
          · refine lv_iload_n hx hb d_MO_trap_74 rfl (lv_at hl 2 rfl) ?_
            refine lv_iload_n hx hb d_MO_trap_75 rfl (lv_at hl 3 rfl) ?_
            refine lv_icmp_ne (tgt := 83) hx hb d_MO_trap_76 (by decide) (fun q76 => ?_) (fun q76 => ?_)
            · refine lv_iconst (v := 0) hx hb d_MO_trap_83 (by decide) ?_
              refine lv_goto (tgt := 97) hx hb d_MO_trap_84 (by decide) ?_
              exact J97 false _ _ _ w (lv_sub hl [0, 1] rfl) (by rw [← e0, f_MO_trap, if_neg q1, if_neg q19, if_neg q40, if_neg q58, if_pos q71, if_neg q76])
            · refine lv_iconst (v := 1) hx hb d_MO_trap_79 (by decide) ?_
              refine lv_goto (tgt := 97) hx hb d_MO_trap_80 (by decide) ?_
              exact J97 true _ _ _ w (lv_sub hl [0, 1] rfl) (by rw [← e0, f_MO_trap, if_neg q1, if_neg q19, if_neg q40, if_neg q58, if_pos q71, if_pos q76])
        · refine lv_iload_n hx hb d_MO_trap_61 rfl (lv_at hl 2 rfl) ?_
          refine lv_iload_n hx hb d_MO_trap_62 rfl (lv_at hl 3 rfl) ?_
          refine rSZ (rest := []) hc w (c_MO_isBelow l E ad σ a2 a3) ks_MO_isBelow mw_1111 ⟨Nat.le_of_ble_eq_true rfl, Nat.le_of_ble_eq_true rfl⟩ hl.1 rfl (Nat.le_of_ble_eq_true rfl) ⟨Nat.zero_le _, Nat.zero_le _⟩ d_MO_trap_63 (fun H locs w => ?_)
          refine lv_goto (tgt := 97) hx hb d_MO_trap_66 (by decide) ?_
          exact J97 (f_MO_isBelow σ a2 a3) _ _ _ w (lv_sub hl [0, 1] rfl) (by rw [← e0, f_MO_trap, if_neg q1, if_neg q19, if_neg q40, if_pos q58])
      · refine lv_iload_n hx hb d_MO_trap_43 rfl (lv_at hl 2 rfl) ?_
        refine lv_iload_n hx hb d_MO_trap_44 rfl (lv_at hl 3 rfl) ?_
        refine lv_icmp_ge (tgt := 52) hx hb d_MO_trap_45 (by decide) (fun q45 => ?_) (fun q45 => ?_)
        · refine lv_iconst (v := 0) hx hb d_MO_trap_52 (by decide) ?_
          refine lv_goto (tgt := 97) hx hb d_MO_trap_53 (by decide) ?_
          exact J97 false _ _ _ w (lv_sub hl [0, 1] rfl) (by rw [← e0, f_MO_trap, if_neg q1, if_neg q19, if_pos q40, if_pos q45])
        · refine lv_iconst (v := 1) hx hb d_MO_trap_48 (by decide) ?_
          refine lv_goto (tgt := 97) hx hb d_MO_trap_49 (by decide) ?_
          exact J97 true _ _ _ w (lv_sub hl [0, 1] rfl) (by rw [← e0, f_MO_trap, if_neg q1, if_neg q19, if_pos q40, if_neg q45])
    · refine lv_iload_n hx hb d_MO_trap_22 rfl (lv_at hl 2 rfl) ?_
      refine lv_iload_n hx hb d_MO_trap_23 rfl (lv_at hl 3 rfl) ?_
      refine rSZ (rest := []) hc w (c_MO_isBelow l E ad σ a2 a3) ks_MO_isBelow mw_1111 ⟨Nat.le_of_ble_eq_true rfl, Nat.le_of_ble_eq_true rfl⟩ hl.1 rfl (Nat.le_of_ble_eq_true rfl) ⟨Nat.zero_le _, Nat.zero_le _⟩ d_MO_trap_24 (fun H locs w => ?_)
      refine lv_if_ne (tgt := 34) hx hb d_MO_trap_27 (by decide) (fun q27 => ?_) (fun q27 => ?_)
      · refine lv_iconst (v := 0) hx hb d_MO_trap_34 (by decide) ?_
        refine lv_goto (tgt := 97) hx hb d_MO_trap_35 (by decide) ?_
        exact J97 false _ _ _ w (lv_sub hl [0, 1] rfl) (by rw [← e0, f_MO_trap, if_neg q1, if_pos q19, if_neg q27])
      · refine lv_iconst (v := 1) hx hb d_MO_trap_30 (by decide) ?_
        refine lv_goto (tgt := 97) hx hb d_MO_trap_31 (by decide) ?_
        exact J97 true _ _ _ w (lv_sub hl [0, 1] rfl) (by rw [← e0, f_MO_trap, if_neg q1, if_pos q19, if_pos q27])
  · refine lv_iload_n hx hb d_MO_trap_4 rfl (lv_at hl 2 rfl) ?_
    refine lv_iload_n hx hb d_MO_trap_5 rfl (lv_at hl 3 rfl) ?_
    refine lv_icmp_lt (tgt := 13) hx hb d_MO_trap_6 (by decide) (fun q6 => ?_) (fun q6 => ?_)
    · refine lv_iconst (v := 0) hx hb d_MO_trap_13 (by decide) ?_
      refine lv_goto (tgt := 97) hx hb d_MO_trap_14 (by decide) ?_
      exact J97 false _ _ _ w (lv_sub hl [0, 1] rfl) (by rw [← e0, f_MO_trap, if_pos q1, if_pos q6])
    · refine lv_iconst (v := 1) hx hb d_MO_trap_9 (by decide) ?_
      refine lv_goto (tgt := 97) hx hb d_MO_trap_10 (by decide) ?_
      exact J97 true _ _ _ w (lv_sub hl [0, 1] rfl) (by rw [← e0, f_MO_trap, if_pos q1, if_neg q6])
-- MO_byRegister
def f_MO_byRegister_c4 (z50 : MS × Int32) (a1 : Int32) (a2 : Int32) (a3 : Int32)  : MS := z50.1
def f_MO_byRegister_47 (σ : MS) (a1 : Int32) (a2 : Int32) (a3 : Int32) : MS := f_MO_byRegister_c4 (f_MO_raise σ (10 : Int32)) a1 a2 a3 
def f_MO_byRegister_c3 (z130 : MS) (a1 : Int32) (a2 : Int32) (a3 : Int32)  : MS := z130
def f_MO_byRegister_130 (σ130 : MS) (a1 : Int32) (a2 : Int32) (a3 : Int32) (w130_1 : Bool) (w130_2 : Int32) (w130_3 : Bool) : MS := f_MO_byRegister_c3 (f_MO_branch σ130 w130_1 w130_2 w130_3) a1 a2 a3 
def f_MO_byRegister_105 (σ105 : MS) (a1 : Int32) (a2 : Int32) (a3 : Int32) (v105_4 : Bool) : MS := if (a1 &&& (2 : Int32)) = (2 : Int32) then (f_MO_byRegister_130 σ105 a1 a2 a3 v105_4 (((m_pc σ105) + (4 : Int32)) + ((4 : Int32) * a3)) true) else (f_MO_byRegister_130 σ105 a1 a2 a3 v105_4 (((m_pc σ105) + (4 : Int32)) + ((4 : Int32) * a3)) false)
def f_MO_byRegister_c2 (z102 : MS) (a1 : Int32) (a2 : Int32) (a3 : Int32) (w84_0 : Bool) : MS := f_MO_byRegister_105 z102 a1 a2 a3 w84_0
def f_MO_byRegister_84 (σ : MS) (a1 : Int32) (a2 : Int32) (a3 : Int32) (w84_0 : Bool) : MS := if a1 ≤ (15 : Int32) then (f_MO_byRegister_105 σ a1 a2 a3 w84_0) else (f_MO_byRegister_c2 (f_MO_put σ (31 : Int32) ((m_pc σ) + (8 : Int32))) a1 a2 a3 w84_0)
def f_MO_byRegister_c1 (z18 : MS) (a1 : Int32) (a2 : Int32) (a3 : Int32)  : MS := z18
def f_MO_byRegister (σ : MS) (a1 : Int32) (a2 : Int32) (a3 : Int32) : MS := if (zb (f_MO_within σ a1 (8 : Int32) (15 : Int32))) = 0 then (if (19 : Int32) < a1 then (f_MO_byRegister_47 σ a1 a2 a3) else (if (zb (f_MO_within σ a1 (4 : Int32) (7 : Int32))) = 0 then (if (zb (m_slot σ)) = 0 then (if (a1 &&& (1 : Int32)) = 0 then (if 0 ≤ a2 then (f_MO_byRegister_84 σ a1 a2 a3 false) else (f_MO_byRegister_84 σ a1 a2 a3 true)) else (if a2 < 0 then (f_MO_byRegister_84 σ a1 a2 a3 false) else (f_MO_byRegister_84 σ a1 a2 a3 true))) else (f_MO_byRegister_47 σ a1 a2 a3)) else (f_MO_byRegister_47 σ a1 a2 a3))) else (f_MO_byRegister_c1 (f_MO_trap σ (a1 - (8 : Int32)) a2 a3) a1 a2 a3 )
theorem d_MO_byRegister_0 : decode b_MO_byRegister 0 = .ok (.iload_n 1, 1) := by decide +kernel
theorem d_MO_byRegister_1 : decode b_MO_byRegister 1 = .ok (.bipush 8, 2) := by decide +kernel
theorem d_MO_byRegister_3 : decode b_MO_byRegister 3 = .ok (.bipush 15, 2) := by decide +kernel
theorem d_MO_byRegister_5 : decode b_MO_byRegister 5 = .ok (.invokestatic 56, 3) := by decide +kernel
theorem d_MO_byRegister_8 : decode b_MO_byRegister 8 = .ok (.ifCond .eq 16, 3) := by decide +kernel
theorem d_MO_byRegister_11 : decode b_MO_byRegister 11 = .ok (.aload_n 0, 1) := by decide +kernel
theorem d_MO_byRegister_12 : decode b_MO_byRegister 12 = .ok (.iload_n 1, 1) := by decide +kernel
theorem d_MO_byRegister_13 : decode b_MO_byRegister 13 = .ok (.bipush 8, 2) := by decide +kernel
theorem d_MO_byRegister_15 : decode b_MO_byRegister 15 = .ok (.isub, 1) := by decide +kernel
theorem d_MO_byRegister_16 : decode b_MO_byRegister 16 = .ok (.iload_n 2, 1) := by decide +kernel
theorem d_MO_byRegister_17 : decode b_MO_byRegister 17 = .ok (.iload_n 3, 1) := by decide +kernel
theorem d_MO_byRegister_18 : decode b_MO_byRegister 18 = .ok (.invokevirtual 212, 3) := by decide +kernel
theorem d_MO_byRegister_21 : decode b_MO_byRegister 21 = .ok (.goto 112, 3) := by decide +kernel
theorem d_MO_byRegister_24 : decode b_MO_byRegister 24 = .ok (.iload_n 1, 1) := by decide +kernel
theorem d_MO_byRegister_25 : decode b_MO_byRegister 25 = .ok (.bipush 19, 2) := by decide +kernel
theorem d_MO_byRegister_27 : decode b_MO_byRegister 27 = .ok (.if_icmp .gt 20, 3) := by decide +kernel
theorem d_MO_byRegister_30 : decode b_MO_byRegister 30 = .ok (.iload_n 1, 1) := by decide +kernel
theorem d_MO_byRegister_31 : decode b_MO_byRegister 31 = .ok (.iconst 4, 1) := by decide +kernel
theorem d_MO_byRegister_32 : decode b_MO_byRegister 32 = .ok (.bipush 7, 2) := by decide +kernel
theorem d_MO_byRegister_34 : decode b_MO_byRegister 34 = .ok (.invokestatic 56, 3) := by decide +kernel
theorem d_MO_byRegister_37 : decode b_MO_byRegister 37 = .ok (.ifCond .ne 10, 3) := by decide +kernel
theorem d_MO_byRegister_40 : decode b_MO_byRegister 40 = .ok (.aload_n 0, 1) := by decide +kernel
theorem d_MO_byRegister_41 : decode b_MO_byRegister 41 = .ok (.getfield 68, 3) := by decide +kernel
theorem d_MO_byRegister_44 : decode b_MO_byRegister 44 = .ok (.ifCond .eq 13, 3) := by decide +kernel
theorem d_MO_byRegister_47 : decode b_MO_byRegister 47 = .ok (.aload_n 0, 1) := by decide +kernel
theorem d_MO_byRegister_48 : decode b_MO_byRegister 48 = .ok (.bipush 10, 2) := by decide +kernel
theorem d_MO_byRegister_50 : decode b_MO_byRegister 50 = .ok (.invokevirtual 196, 3) := by decide +kernel
theorem d_MO_byRegister_53 : decode b_MO_byRegister 53 = .ok (.pop, 1) := by decide +kernel
theorem d_MO_byRegister_54 : decode b_MO_byRegister 54 = .ok (.goto 79, 3) := by decide +kernel
theorem d_MO_byRegister_57 : decode b_MO_byRegister 57 = .ok (.iload_n 1, 1) := by decide +kernel
theorem d_MO_byRegister_58 : decode b_MO_byRegister 58 = .ok (.iconst 1, 1) := by decide +kernel
theorem d_MO_byRegister_59 : decode b_MO_byRegister 59 = .ok (.iand, 1) := by decide +kernel
theorem d_MO_byRegister_60 : decode b_MO_byRegister 60 = .ok (.ifCond .ne 15, 3) := by decide +kernel
theorem d_MO_byRegister_63 : decode b_MO_byRegister 63 = .ok (.iload_n 2, 1) := by decide +kernel
theorem d_MO_byRegister_64 : decode b_MO_byRegister 64 = .ok (.ifCond .ge 7, 3) := by decide +kernel
theorem d_MO_byRegister_67 : decode b_MO_byRegister 67 = .ok (.iconst 1, 1) := by decide +kernel
theorem d_MO_byRegister_68 : decode b_MO_byRegister 68 = .ok (.goto 16, 3) := by decide +kernel
theorem d_MO_byRegister_71 : decode b_MO_byRegister 71 = .ok (.iconst 0, 1) := by decide +kernel
theorem d_MO_byRegister_72 : decode b_MO_byRegister 72 = .ok (.goto 12, 3) := by decide +kernel
theorem d_MO_byRegister_75 : decode b_MO_byRegister 75 = .ok (.iload_n 2, 1) := by decide +kernel
theorem d_MO_byRegister_76 : decode b_MO_byRegister 76 = .ok (.ifCond .lt 7, 3) := by decide +kernel
theorem d_MO_byRegister_79 : decode b_MO_byRegister 79 = .ok (.iconst 1, 1) := by decide +kernel
theorem d_MO_byRegister_80 : decode b_MO_byRegister 80 = .ok (.goto 4, 3) := by decide +kernel
theorem d_MO_byRegister_83 : decode b_MO_byRegister 83 = .ok (.iconst 0, 1) := by decide +kernel
theorem d_MO_byRegister_84 : decode b_MO_byRegister 84 = .ok (.istore 4, 2) := by decide +kernel
theorem d_MO_byRegister_86 : decode b_MO_byRegister 86 = .ok (.iload_n 1, 1) := by decide +kernel
theorem d_MO_byRegister_87 : decode b_MO_byRegister 87 = .ok (.bipush 15, 2) := by decide +kernel
theorem d_MO_byRegister_89 : decode b_MO_byRegister 89 = .ok (.if_icmp .le 16, 3) := by decide +kernel
theorem d_MO_byRegister_92 : decode b_MO_byRegister 92 = .ok (.aload_n 0, 1) := by decide +kernel
theorem d_MO_byRegister_93 : decode b_MO_byRegister 93 = .ok (.bipush 31, 2) := by decide +kernel
theorem d_MO_byRegister_95 : decode b_MO_byRegister 95 = .ok (.aload_n 0, 1) := by decide +kernel
theorem d_MO_byRegister_96 : decode b_MO_byRegister 96 = .ok (.getfield 40, 3) := by decide +kernel
theorem d_MO_byRegister_99 : decode b_MO_byRegister 99 = .ok (.bipush 8, 2) := by decide +kernel
theorem d_MO_byRegister_101 : decode b_MO_byRegister 101 = .ok (.iadd, 1) := by decide +kernel
theorem d_MO_byRegister_102 : decode b_MO_byRegister 102 = .ok (.invokevirtual 78, 3) := by decide +kernel
theorem d_MO_byRegister_105 : decode b_MO_byRegister 105 = .ok (.aload_n 0, 1) := by decide +kernel
theorem d_MO_byRegister_106 : decode b_MO_byRegister 106 = .ok (.iload 4, 2) := by decide +kernel
theorem d_MO_byRegister_108 : decode b_MO_byRegister 108 = .ok (.aload_n 0, 1) := by decide +kernel
theorem d_MO_byRegister_109 : decode b_MO_byRegister 109 = .ok (.getfield 40, 3) := by decide +kernel
theorem d_MO_byRegister_112 : decode b_MO_byRegister 112 = .ok (.iconst 4, 1) := by decide +kernel
theorem d_MO_byRegister_113 : decode b_MO_byRegister 113 = .ok (.iadd, 1) := by decide +kernel
theorem d_MO_byRegister_114 : decode b_MO_byRegister 114 = .ok (.iconst 4, 1) := by decide +kernel
theorem d_MO_byRegister_115 : decode b_MO_byRegister 115 = .ok (.iload_n 3, 1) := by decide +kernel
theorem d_MO_byRegister_116 : decode b_MO_byRegister 116 = .ok (.imul, 1) := by decide +kernel
theorem d_MO_byRegister_117 : decode b_MO_byRegister 117 = .ok (.iadd, 1) := by decide +kernel
theorem d_MO_byRegister_118 : decode b_MO_byRegister 118 = .ok (.iload_n 1, 1) := by decide +kernel
theorem d_MO_byRegister_119 : decode b_MO_byRegister 119 = .ok (.iconst 2, 1) := by decide +kernel
theorem d_MO_byRegister_120 : decode b_MO_byRegister 120 = .ok (.iand, 1) := by decide +kernel
theorem d_MO_byRegister_121 : decode b_MO_byRegister 121 = .ok (.iconst 2, 1) := by decide +kernel
theorem d_MO_byRegister_122 : decode b_MO_byRegister 122 = .ok (.if_icmp .ne 7, 3) := by decide +kernel
theorem d_MO_byRegister_125 : decode b_MO_byRegister 125 = .ok (.iconst 1, 1) := by decide +kernel
theorem d_MO_byRegister_126 : decode b_MO_byRegister 126 = .ok (.goto 4, 3) := by decide +kernel
theorem d_MO_byRegister_129 : decode b_MO_byRegister 129 = .ok (.iconst 0, 1) := by decide +kernel
theorem d_MO_byRegister_130 : decode b_MO_byRegister 130 = .ok (.invokevirtual 199, 3) := by decide +kernel
theorem d_MO_byRegister_133 : decode b_MO_byRegister 133 = .ok (.return_, 1) := by decide +kernel
set_option maxHeartbeats 4000000 in
set_option maxRecDepth 100000 in
theorem c_MO_byRegister (l : Launch) (E : Ev) (ad : Nat → Nat) (σ : MS) (a1 : Int32) (a2 : Int32) (a3 : Int32) : rC xCl l E (mW E ad) y_MO_byRegister b_MO_byRegister 5 (Option.none : Option Jvm.ClassFile.FieldType) (rmo 2 45) [.ref (ad 0), .int a1, .int a2, .int a3] σ (zV (f_MO_byRegister σ a1 a2 a3)) := by
  refine rC.of (by decide) (Nat.le_of_ble_eq_true rfl) ?_
  intro p e s m below meth c A ls hc w hl
  generalize e0 : zV (f_MO_byRegister σ a1 a2 a3) = Z
  have hc : Cx xCl E A p s m ([.ref (ad 0), .int a1, .int a2, .int a3] : List Value).toArray meth c b_MO_byRegister 5 (Option.none : Option Jvm.ClassFile.FieldType) "PageMachineModel" := hc
  have hx := hc.1
  have hb := hc.2.1
  have ho := hc.2.2.2.2.2.1
  have hT := hc.2.2.2.2.2.2.1
  have hl : lv_has ls 5 [(0, .ref (ad 0)), (1, .int a1), (2, .int a2), (3, .int a3)] := hl
  have J47 : ∀ (H : Heap) (locs : List Loc) (ls : Array Slot), Wd xCl E A s.heap H locs (mW E ad σ) → lv_has ls 5 [(0, .ref (ad 0))] → zV (f_MO_byRegister_47 σ a1 a2 a3) = Z → W p l e (rmo 2 45) s m ([.ref (ad 0), .int a1, .int a2, .int a3] : List Value).toArray below meth c H locs 0 0 (MQ below (rQ xCl (mW E ad) E A Z) ([.ref (ad 0), .int a1, .int a2, .int a3] : List Value).toArray s 0 0 A) (F0 m 47 ls []) := by
    intro  H locs ls w hl e47
    refine lv_aload_n hx hb d_MO_byRegister_47 rfl (lv_at hl 0 rfl) ?_
    refine lv_bipush (v := 10) hx hb d_MO_byRegister_48 (by decide) ?_
    refine cVI (rest := []) hc w (c_MO_raise l E ad σ (10 : Int32)) kv_MO_raise mw_1079 0 rfl rfl ⟨Nat.le_of_ble_eq_true rfl, Nat.le_of_ble_eq_true rfl⟩ hl.1 rfl (Nat.le_of_ble_eq_true rfl) ⟨Nat.zero_le _, Nat.zero_le _⟩ d_MO_byRegister_50 (fun z50 H locs hs50 w => ?_)
    have e_c4 : zV (f_MO_byRegister_c4 z50 a1 a2 a3 ) = Z := by rw [← e47, f_MO_byRegister_47, hs50]
    refine lv_pop hx hb d_MO_byRegister_53 rfl ?_
    refine lv_goto (tgt := 133) hx hb d_MO_byRegister_54 (by decide) ?_
    exact rt_v hc w d_MO_byRegister_133 (by rw [← e_c4, f_MO_byRegister_c4] <;> rfl)
  have J130 : ∀ (σ130 : MS) (w130_1 : Bool) (w130_2 : Int32) (w130_3 : Bool) (H : Heap) (locs : List Loc) (ls : Array Slot), Wd xCl E A s.heap H locs (mW E ad σ130) → lv_has ls 5 [] → zV (f_MO_byRegister_130 σ130 a1 a2 a3 w130_1 w130_2 w130_3) = Z → W p l e (rmo 2 45) s m ([.ref (ad 0), .int a1, .int a2, .int a3] : List Value).toArray below meth c H locs 0 0 (MQ below (rQ xCl (mW E ad) E A Z) ([.ref (ad 0), .int a1, .int a2, .int a3] : List Value).toArray s 0 0 A) (F0 m 130 ls [.int (zb w130_3), .int w130_2, .int (zb w130_1), .ref (ad 0)]) := by
    intro σ130 w130_1 w130_2 w130_3 H locs ls w hl e130
    refine cVV (rest := []) hc w (c_MO_branch l E ad σ130 w130_1 w130_2 w130_3) kv_MO_branch mw_1083 0 rfl rfl ⟨Nat.le_of_ble_eq_true rfl, Nat.le_of_ble_eq_true rfl⟩ hl.1 rfl (Nat.le_of_ble_eq_true rfl) ⟨Nat.zero_le _, Nat.zero_le _⟩ d_MO_byRegister_130 (fun z130 H locs hs130 w => ?_)
    have e_c3 : zV (f_MO_byRegister_c3 z130 a1 a2 a3 ) = Z := by rw [← e130, f_MO_byRegister_130, hs130]
    exact rt_v hc w d_MO_byRegister_133 (by rw [← e_c3, f_MO_byRegister_c3] <;> rfl)
  have J105 : ∀ (σ105 : MS) (v105_4 : Bool) (H : Heap) (locs : List Loc) (ls : Array Slot), Wd xCl E A s.heap H locs (mW E ad σ105) → lv_has ls 5 [(4, .int (zb v105_4)), (0, .ref (ad 0)), (1, .int a1), (3, .int a3)] → zV (f_MO_byRegister_105 σ105 a1 a2 a3 v105_4) = Z → W p l e (rmo 2 45) s m ([.ref (ad 0), .int a1, .int a2, .int a3] : List Value).toArray below meth c H locs 0 0 (MQ below (rQ xCl (mW E ad) E A Z) ([.ref (ad 0), .int a1, .int a2, .int a3] : List Value).toArray s 0 0 A) (F0 m 105 ls []) := by
    intro σ105 v105_4 H locs ls w hl e105
    refine lv_aload_n hx hb d_MO_byRegister_105 rfl (lv_at hl 1 rfl) ?_
    refine lv_iload hx hb d_MO_byRegister_106 (lv_at hl 0 rfl) ?_
    refine lv_aload_n hx hb d_MO_byRegister_108 rfl (lv_at hl 1 rfl) ?_
    refine g_MO_pc hc w mw_891 d_MO_byRegister_109 ?_
    refine lv_iconst (v := 4) hx hb d_MO_byRegister_112 (by decide) ?_
    refine lv_iadd hx hb d_MO_byRegister_113 ?_
    refine lv_iconst (v := 4) hx hb d_MO_byRegister_114 (by decide) ?_
    refine lv_iload_n hx hb d_MO_byRegister_115 rfl (lv_at hl 3 rfl) ?_
    refine lv_imul hx hb d_MO_byRegister_116 ?_
    refine lv_iadd hx hb d_MO_byRegister_117 ?_
    refine lv_iload_n hx hb d_MO_byRegister_118 rfl (lv_at hl 2 rfl) ?_
    refine lv_iconst (v := 2) hx hb d_MO_byRegister_119 (by decide) ?_
    refine lv_iand hx hb d_MO_byRegister_120 ?_
    refine lv_iconst (v := 2) hx hb d_MO_byRegister_121 (by decide) ?_
    refine lv_icmp_ne (tgt := 129) hx hb d_MO_byRegister_122 (by decide) (fun q122 => ?_) (fun q122 => ?_)
    · refine lv_iconst (v := 0) hx hb d_MO_byRegister_129 (by decide) ?_
      exact J130 σ105 v105_4 (((m_pc σ105) + (4 : Int32)) + ((4 : Int32) * a3)) false _ _ _ w (lv_sub hl [] rfl) (by rw [← e105, f_MO_byRegister_105, if_neg q122])
    · refine lv_iconst (v := 1) hx hb d_MO_byRegister_125 (by decide) ?_
      refine lv_goto (tgt := 130) hx hb d_MO_byRegister_126 (by decide) ?_
      exact J130 σ105 v105_4 (((m_pc σ105) + (4 : Int32)) + ((4 : Int32) * a3)) true _ _ _ w (lv_sub hl [] rfl) (by rw [← e105, f_MO_byRegister_105, if_pos q122])
  have J84 : ∀ (w84_0 : Bool) (H : Heap) (locs : List Loc) (ls : Array Slot), Wd xCl E A s.heap H locs (mW E ad σ) → lv_has ls 5 [(0, .ref (ad 0)), (1, .int a1), (3, .int a3)] → zV (f_MO_byRegister_84 σ a1 a2 a3 w84_0) = Z → W p l e (rmo 2 45) s m ([.ref (ad 0), .int a1, .int a2, .int a3] : List Value).toArray below meth c H locs 0 0 (MQ below (rQ xCl (mW E ad) E A Z) ([.ref (ad 0), .int a1, .int a2, .int a3] : List Value).toArray s 0 0 A) (F0 m 84 ls [.int (zb w84_0)]) := by
    intro w84_0 H locs ls w hl e84
    refine lv_istore (lv' := [(4, .int (zb w84_0)), (0, .ref (ad 0)), (1, .int a1), (3, .int a3)]) hx hb d_MO_byRegister_84 hl (by decide) rfl (fun ls hl => ?_)
    refine lv_iload_n hx hb d_MO_byRegister_86 rfl (lv_at hl 2 rfl) ?_
    refine lv_bipush (v := 15) hx hb d_MO_byRegister_87 (by decide) ?_
    refine lv_icmp_le (tgt := 105) hx hb d_MO_byRegister_89 (by decide) (fun q89 => ?_) (fun q89 => ?_)
    · exact J105 σ w84_0 _ _ _ w (lv_sub hl [0, 1, 2, 3] rfl) (by rw [← e84, f_MO_byRegister_84, if_pos q89])
    · refine lv_aload_n hx hb d_MO_byRegister_92 rfl (lv_at hl 1 rfl) ?_
      refine lv_bipush (v := 31) hx hb d_MO_byRegister_93 (by decide) ?_
      refine lv_aload_n hx hb d_MO_byRegister_95 rfl (lv_at hl 1 rfl) ?_
      refine g_MO_pc hc w mw_891 d_MO_byRegister_96 ?_
      refine lv_bipush (v := 8) hx hb d_MO_byRegister_99 (by decide) ?_
      refine lv_iadd hx hb d_MO_byRegister_101 ?_
      refine cVV (rest := []) hc w (c_MO_put l E ad σ (31 : Int32) ((m_pc σ) + (8 : Int32)) (by unfold vp_in; decide)) kv_MO_put mw_1000 0 rfl rfl ⟨Nat.le_of_ble_eq_true rfl, Nat.le_of_ble_eq_true rfl⟩ hl.1 rfl (Nat.le_of_ble_eq_true rfl) ⟨Nat.zero_le _, Nat.zero_le _⟩ d_MO_byRegister_102 (fun z102 H locs hs102 w => ?_)
      have e_c2 : zV (f_MO_byRegister_c2 z102 a1 a2 a3 w84_0) = Z := by rw [← e84, f_MO_byRegister_84, if_neg q89, hs102]
      exact J105 z102 w84_0 _ _ _ w (lv_sub hl [0, 1, 2, 3] rfl) (by rw [← e_c2, f_MO_byRegister_c2])
  refine lv_iload_n hx hb d_MO_byRegister_0 rfl (lv_at hl 1 rfl) ?_
  refine lv_bipush (v := 8) hx hb d_MO_byRegister_1 (by decide) ?_
  refine lv_bipush (v := 15) hx hb d_MO_byRegister_3 (by decide) ?_
  refine rSZ (rest := []) hc w (c_MO_within l E ad σ a1 (8 : Int32) (15 : Int32)) ks_MO_within mw_976 ⟨Nat.le_of_ble_eq_true rfl, Nat.le_of_ble_eq_true rfl⟩ hl.1 rfl (Nat.le_of_ble_eq_true rfl) ⟨Nat.zero_le _, Nat.zero_le _⟩ d_MO_byRegister_5 (fun H locs w => ?_)
  refine lv_if_eq (tgt := 24) hx hb d_MO_byRegister_8 (by decide) (fun q8 => ?_) (fun q8 => ?_)
  · refine lv_iload_n hx hb d_MO_byRegister_24 rfl (lv_at hl 1 rfl) ?_
    refine lv_bipush (v := 19) hx hb d_MO_byRegister_25 (by decide) ?_
    refine lv_icmp_gt (tgt := 47) hx hb d_MO_byRegister_27 (by decide) (fun q27 => ?_) (fun q27 => ?_)
    · exact J47  _ _ _ w (lv_sub hl [0] rfl) (by rw [← e0, f_MO_byRegister, if_pos q8, if_pos q27])
    · refine lv_iload_n hx hb d_MO_byRegister_30 rfl (lv_at hl 1 rfl) ?_
      refine lv_iconst (v := 4) hx hb d_MO_byRegister_31 (by decide) ?_
      refine lv_bipush (v := 7) hx hb d_MO_byRegister_32 (by decide) ?_
      refine rSZ (rest := []) hc w (c_MO_within l E ad σ a1 (4 : Int32) (7 : Int32)) ks_MO_within mw_976 ⟨Nat.le_of_ble_eq_true rfl, Nat.le_of_ble_eq_true rfl⟩ hl.1 rfl (Nat.le_of_ble_eq_true rfl) ⟨Nat.zero_le _, Nat.zero_le _⟩ d_MO_byRegister_34 (fun H locs w => ?_)
      refine lv_if_ne (tgt := 47) hx hb d_MO_byRegister_37 (by decide) (fun q37 => ?_) (fun q37 => ?_)
      · exact J47  _ _ _ w (lv_sub hl [0] rfl) (by rw [← e0, f_MO_byRegister, if_pos q8, if_neg q27, if_neg q37])
      · refine lv_aload_n hx hb d_MO_byRegister_40 rfl (lv_at hl 0 rfl) ?_
        refine g_MO_slot hc w mw_894 d_MO_byRegister_41 ?_
        refine lv_if_eq (tgt := 57) hx hb d_MO_byRegister_44 (by decide) (fun q44 => ?_) (fun q44 => ?_)
        · refine lv_iload_n hx hb d_MO_byRegister_57 rfl (lv_at hl 1 rfl) ?_
          refine lv_iconst (v := 1) hx hb d_MO_byRegister_58 (by decide) ?_
          refine lv_iand hx hb d_MO_byRegister_59 ?_
          refine lv_if_ne (tgt := 75) hx hb d_MO_byRegister_60 (by decide) (fun q60 => ?_) (fun q60 => ?_)
          · refine lv_iload_n hx hb d_MO_byRegister_75 rfl (lv_at hl 2 rfl) ?_
            refine lv_if_lt (tgt := 83) hx hb d_MO_byRegister_76 (by decide) (fun q76 => ?_) (fun q76 => ?_)
            · refine lv_iconst (v := 0) hx hb d_MO_byRegister_83 (by decide) ?_
              exact J84 false _ _ _ w (lv_sub hl [0, 1, 3] rfl) (by rw [← e0, f_MO_byRegister, if_pos q8, if_neg q27, if_pos q37, if_pos q44, if_neg q60, if_pos q76])
            · refine lv_iconst (v := 1) hx hb d_MO_byRegister_79 (by decide) ?_
              refine lv_goto (tgt := 84) hx hb d_MO_byRegister_80 (by decide) ?_
              exact J84 true _ _ _ w (lv_sub hl [0, 1, 3] rfl) (by rw [← e0, f_MO_byRegister, if_pos q8, if_neg q27, if_pos q37, if_pos q44, if_neg q60, if_neg q76])
          · refine lv_iload_n hx hb d_MO_byRegister_63 rfl (lv_at hl 2 rfl) ?_
            refine lv_if_ge (tgt := 71) hx hb d_MO_byRegister_64 (by decide) (fun q64 => ?_) (fun q64 => ?_)
            · refine lv_iconst (v := 0) hx hb d_MO_byRegister_71 (by decide) ?_
              refine lv_goto (tgt := 84) hx hb d_MO_byRegister_72 (by decide) ?_
              exact J84 false _ _ _ w (lv_sub hl [0, 1, 3] rfl) (by rw [← e0, f_MO_byRegister, if_pos q8, if_neg q27, if_pos q37, if_pos q44, if_pos q60, if_pos q64])
            · refine lv_iconst (v := 1) hx hb d_MO_byRegister_67 (by decide) ?_
              refine lv_goto (tgt := 84) hx hb d_MO_byRegister_68 (by decide) ?_
              exact J84 true _ _ _ w (lv_sub hl [0, 1, 3] rfl) (by rw [← e0, f_MO_byRegister, if_pos q8, if_neg q27, if_pos q37, if_pos q44, if_pos q60, if_neg q64])
        · exact J47  _ _ _ w (lv_sub hl [0] rfl) (by rw [← e0, f_MO_byRegister, if_pos q8, if_neg q27, if_pos q37, if_neg q44])
  · refine lv_aload_n hx hb d_MO_byRegister_11 rfl (lv_at hl 0 rfl) ?_
    refine lv_iload_n hx hb d_MO_byRegister_12 rfl (lv_at hl 1 rfl) ?_
    refine lv_bipush (v := 8) hx hb d_MO_byRegister_13 (by decide) ?_
    refine lv_isub hx hb d_MO_byRegister_15 ?_
    refine lv_iload_n hx hb d_MO_byRegister_16 rfl (lv_at hl 2 rfl) ?_
    refine lv_iload_n hx hb d_MO_byRegister_17 rfl (lv_at hl 3 rfl) ?_
    refine cVV (rest := []) hc w (c_MO_trap l E ad σ (a1 - (8 : Int32)) a2 a3) kv_MO_trap mw_1107 0 rfl rfl ⟨Nat.le_of_ble_eq_true rfl, Nat.le_of_ble_eq_true rfl⟩ hl.1 rfl (Nat.le_of_ble_eq_true rfl) ⟨Nat.zero_le _, Nat.zero_le _⟩ d_MO_byRegister_18 (fun z18 H locs hs18 w => ?_)
    have e_c1 : zV (f_MO_byRegister_c1 z18 a1 a2 a3 ) = Z := by rw [← e0, f_MO_byRegister, if_neg q8, hs18]
    refine lv_goto (tgt := 133) hx hb d_MO_byRegister_21 (by decide) ?_
    exact rt_v hc w d_MO_byRegister_133 (by rw [← e_c1, f_MO_byRegister_c1] <;> rfl)
-- MO_branches
def f_MO_branches_c4 (z159 : MS) (a1 : Int32) (a2 : Int32) (a3 : Int32) (a4 : Int32) (a5 : Int32)  : MS := z159
def f_MO_branches_159 (σ : MS) (a1 : Int32) (a2 : Int32) (a3 : Int32) (a4 : Int32) (a5 : Int32) (w159_1 : Bool) (w159_2 : Int32) (w159_3 : Bool) : MS := f_MO_branches_c4 (f_MO_branch σ w159_1 w159_2 w159_3) a1 a2 a3 a4 a5 
def f_MO_branches_132 (σ : MS) (a1 : Int32) (a2 : Int32) (a3 : Int32) (a4 : Int32) (a5 : Int32) (w132_0 : Bool) : MS := if a2 ≤ (7 : Int32) then (f_MO_branches_159 σ a1 a2 a3 a4 a5 w132_0 (((m_pc σ) + (4 : Int32)) + ((4 : Int32) * a5)) false) else (f_MO_branches_159 σ a1 a2 a3 a4 a5 w132_0 (((m_pc σ) + (4 : Int32)) + ((4 : Int32) * a5)) true)
def f_MO_branches_c3 (z57 : MS) (a1 : Int32) (a2 : Int32) (a3 : Int32) (a4 : Int32) (a5 : Int32)  : MS := z57
def f_MO_branches_38 (σ38 : MS) (a1 : Int32) (a2 : Int32) (a3 : Int32) (a4 : Int32) (a5 : Int32) : MS := f_MO_branches_c3 (f_MO_branch σ38 true ((((m_pc σ38) + (4 : Int32)) &&& (-268435456 : Int32)) ||| ((a1 &&& (67108863 : Int32)) <<< ((2 : Int32) &&& 31))) false) a1 a2 a3 a4 a5 
def f_MO_branches_c2 (z10 : MS × Int32) (a1 : Int32) (a2 : Int32) (a3 : Int32) (a4 : Int32) (a5 : Int32)  : MS := z10.1
def f_MO_branches_c1 (z35 : MS) (a1 : Int32) (a2 : Int32) (a3 : Int32) (a4 : Int32) (a5 : Int32)  : MS := f_MO_branches_38 z35 a1 a2 a3 a4 a5
def f_MO_branches (σ : MS) (a1 : Int32) (a2 : Int32) (a3 : Int32) (a4 : Int32) (a5 : Int32) : MS := if (zb (m_slot σ)) = 0 then (if (4 : Int32) ≤ a2 then (if (a2 &&& (3 : Int32)) = 0 then (if a3 = a4 then (f_MO_branches_132 σ a1 a2 a3 a4 a5 true) else (f_MO_branches_132 σ a1 a2 a3 a4 a5 false)) else (if (a2 &&& (3 : Int32)) = (1 : Int32) then (if a3 = a4 then (f_MO_branches_132 σ a1 a2 a3 a4 a5 false) else (f_MO_branches_132 σ a1 a2 a3 a4 a5 true)) else (if (a2 &&& (3 : Int32)) = (2 : Int32) then (if 0 < a3 then (f_MO_branches_132 σ a1 a2 a3 a4 a5 false) else (f_MO_branches_132 σ a1 a2 a3 a4 a5 true)) else (if a3 ≤ 0 then (f_MO_branches_132 σ a1 a2 a3 a4 a5 false) else (f_MO_branches_132 σ a1 a2 a3 a4 a5 true))))) else (if a2 = (3 : Int32) then (f_MO_branches_c1 (f_MO_put σ (31 : Int32) ((m_pc σ) + (8 : Int32))) a1 a2 a3 a4 a5 ) else (f_MO_branches_38 σ a1 a2 a3 a4 a5))) else (f_MO_branches_c2 (f_MO_raise σ (10 : Int32)) a1 a2 a3 a4 a5 )
theorem d_MO_branches_0 : decode b_MO_branches 0 = .ok (.aload_n 0, 1) := by decide +kernel
theorem d_MO_branches_1 : decode b_MO_branches 1 = .ok (.getfield 68, 3) := by decide +kernel
theorem d_MO_branches_4 : decode b_MO_branches 4 = .ok (.ifCond .eq 11, 3) := by decide +kernel
theorem d_MO_branches_7 : decode b_MO_branches 7 = .ok (.aload_n 0, 1) := by decide +kernel
theorem d_MO_branches_8 : decode b_MO_branches 8 = .ok (.bipush 10, 2) := by decide +kernel
theorem d_MO_branches_10 : decode b_MO_branches 10 = .ok (.invokevirtual 196, 3) := by decide +kernel
theorem d_MO_branches_13 : decode b_MO_branches 13 = .ok (.pop, 1) := by decide +kernel
theorem d_MO_branches_14 : decode b_MO_branches 14 = .ok (.return_, 1) := by decide +kernel
theorem d_MO_branches_15 : decode b_MO_branches 15 = .ok (.iload_n 2, 1) := by decide +kernel
theorem d_MO_branches_16 : decode b_MO_branches 16 = .ok (.iconst 4, 1) := by decide +kernel
theorem d_MO_branches_17 : decode b_MO_branches 17 = .ok (.if_icmp .ge 44, 3) := by decide +kernel
theorem d_MO_branches_20 : decode b_MO_branches 20 = .ok (.iload_n 2, 1) := by decide +kernel
theorem d_MO_branches_21 : decode b_MO_branches 21 = .ok (.iconst 3, 1) := by decide +kernel
theorem d_MO_branches_22 : decode b_MO_branches 22 = .ok (.if_icmp .ne 16, 3) := by decide +kernel
theorem d_MO_branches_25 : decode b_MO_branches 25 = .ok (.aload_n 0, 1) := by decide +kernel
theorem d_MO_branches_26 : decode b_MO_branches 26 = .ok (.bipush 31, 2) := by decide +kernel
theorem d_MO_branches_28 : decode b_MO_branches 28 = .ok (.aload_n 0, 1) := by decide +kernel
theorem d_MO_branches_29 : decode b_MO_branches 29 = .ok (.getfield 40, 3) := by decide +kernel
theorem d_MO_branches_32 : decode b_MO_branches 32 = .ok (.bipush 8, 2) := by decide +kernel
theorem d_MO_branches_34 : decode b_MO_branches 34 = .ok (.iadd, 1) := by decide +kernel
theorem d_MO_branches_35 : decode b_MO_branches 35 = .ok (.invokevirtual 78, 3) := by decide +kernel
theorem d_MO_branches_38 : decode b_MO_branches 38 = .ok (.aload_n 0, 1) := by decide +kernel
theorem d_MO_branches_39 : decode b_MO_branches 39 = .ok (.iconst 1, 1) := by decide +kernel
theorem d_MO_branches_40 : decode b_MO_branches 40 = .ok (.aload_n 0, 1) := by decide +kernel
theorem d_MO_branches_41 : decode b_MO_branches 41 = .ok (.getfield 40, 3) := by decide +kernel
theorem d_MO_branches_44 : decode b_MO_branches 44 = .ok (.iconst 4, 1) := by decide +kernel
theorem d_MO_branches_45 : decode b_MO_branches 45 = .ok (.iadd, 1) := by decide +kernel
theorem d_MO_branches_46 : decode b_MO_branches 46 = .ok (.ldc 231, 2) := by decide +kernel
theorem d_MO_branches_48 : decode b_MO_branches 48 = .ok (.iand, 1) := by decide +kernel
theorem d_MO_branches_49 : decode b_MO_branches 49 = .ok (.iload_n 1, 1) := by decide +kernel
theorem d_MO_branches_50 : decode b_MO_branches 50 = .ok (.ldc 87, 2) := by decide +kernel
theorem d_MO_branches_52 : decode b_MO_branches 52 = .ok (.iand, 1) := by decide +kernel
theorem d_MO_branches_53 : decode b_MO_branches 53 = .ok (.iconst 2, 1) := by decide +kernel
theorem d_MO_branches_54 : decode b_MO_branches 54 = .ok (.ishl, 1) := by decide +kernel
theorem d_MO_branches_55 : decode b_MO_branches 55 = .ok (.ior, 1) := by decide +kernel
theorem d_MO_branches_56 : decode b_MO_branches 56 = .ok (.iconst 0, 1) := by decide +kernel
theorem d_MO_branches_57 : decode b_MO_branches 57 = .ok (.invokevirtual 199, 3) := by decide +kernel
theorem d_MO_branches_60 : decode b_MO_branches 60 = .ok (.return_, 1) := by decide +kernel
theorem d_MO_branches_61 : decode b_MO_branches 61 = .ok (.iload_n 2, 1) := by decide +kernel
theorem d_MO_branches_62 : decode b_MO_branches 62 = .ok (.iconst 3, 1) := by decide +kernel
theorem d_MO_branches_63 : decode b_MO_branches 63 = .ok (.iand, 1) := by decide +kernel
theorem d_MO_branches_64 : decode b_MO_branches 64 = .ok (.istore 6, 2) := by decide +kernel
theorem d_MO_branches_66 : decode b_MO_branches 66 = .ok (.iload 6, 2) := by decide +kernel
theorem d_MO_branches_68 : decode b_MO_branches 68 = .ok (.ifCond .ne 17, 3) := by decide +kernel
theorem d_MO_branches_71 : decode b_MO_branches 71 = .ok (.iload_n 3, 1) := by decide +kernel
theorem d_MO_branches_72 : decode b_MO_branches 72 = .ok (.iload 4, 2) := by decide +kernel
theorem d_MO_branches_74 : decode b_MO_branches 74 = .ok (.if_icmp .ne 7, 3) := by decide +kernel
theorem d_MO_branches_77 : decode b_MO_branches 77 = .ok (.iconst 1, 1) := by decide +kernel
theorem d_MO_branches_78 : decode b_MO_branches 78 = .ok (.goto 54, 3) := by decide +kernel
theorem d_MO_branches_81 : decode b_MO_branches 81 = .ok (.iconst 0, 1) := by decide +kernel
theorem d_MO_branches_82 : decode b_MO_branches 82 = .ok (.goto 50, 3) := by decide +kernel
theorem d_MO_branches_85 : decode b_MO_branches 85 = .ok (.iload 6, 2) := by decide +kernel
theorem d_MO_branches_87 : decode b_MO_branches 87 = .ok (.iconst 1, 1) := by decide +kernel
theorem d_MO_branches_88 : decode b_MO_branches 88 = .ok (.if_icmp .ne 17, 3) := by decide +kernel
theorem d_MO_branches_91 : decode b_MO_branches 91 = .ok (.iload_n 3, 1) := by decide +kernel
theorem d_MO_branches_92 : decode b_MO_branches 92 = .ok (.iload 4, 2) := by decide +kernel
theorem d_MO_branches_94 : decode b_MO_branches 94 = .ok (.if_icmp .eq 7, 3) := by decide +kernel
theorem d_MO_branches_97 : decode b_MO_branches 97 = .ok (.iconst 1, 1) := by decide +kernel
theorem d_MO_branches_98 : decode b_MO_branches 98 = .ok (.goto 34, 3) := by decide +kernel
theorem d_MO_branches_101 : decode b_MO_branches 101 = .ok (.iconst 0, 1) := by decide +kernel
theorem d_MO_branches_102 : decode b_MO_branches 102 = .ok (.goto 30, 3) := by decide +kernel
theorem d_MO_branches_105 : decode b_MO_branches 105 = .ok (.iload 6, 2) := by decide +kernel
theorem d_MO_branches_107 : decode b_MO_branches 107 = .ok (.iconst 2, 1) := by decide +kernel
theorem d_MO_branches_108 : decode b_MO_branches 108 = .ok (.if_icmp .ne 15, 3) := by decide +kernel
theorem d_MO_branches_111 : decode b_MO_branches 111 = .ok (.iload_n 3, 1) := by decide +kernel
theorem d_MO_branches_112 : decode b_MO_branches 112 = .ok (.ifCond .gt 7, 3) := by decide +kernel
theorem d_MO_branches_115 : decode b_MO_branches 115 = .ok (.iconst 1, 1) := by decide +kernel
theorem d_MO_branches_116 : decode b_MO_branches 116 = .ok (.goto 16, 3) := by decide +kernel
theorem d_MO_branches_119 : decode b_MO_branches 119 = .ok (.iconst 0, 1) := by decide +kernel
theorem d_MO_branches_120 : decode b_MO_branches 120 = .ok (.goto 12, 3) := by decide +kernel
theorem d_MO_branches_123 : decode b_MO_branches 123 = .ok (.iload_n 3, 1) := by decide +kernel
theorem d_MO_branches_124 : decode b_MO_branches 124 = .ok (.ifCond .le 7, 3) := by decide +kernel
theorem d_MO_branches_127 : decode b_MO_branches 127 = .ok (.iconst 1, 1) := by decide +kernel
theorem d_MO_branches_128 : decode b_MO_branches 128 = .ok (.goto 4, 3) := by decide +kernel
theorem d_MO_branches_131 : decode b_MO_branches 131 = .ok (.iconst 0, 1) := by decide +kernel
theorem d_MO_branches_132 : decode b_MO_branches 132 = .ok (.istore 7, 2) := by decide +kernel
theorem d_MO_branches_134 : decode b_MO_branches 134 = .ok (.aload_n 0, 1) := by decide +kernel
theorem d_MO_branches_135 : decode b_MO_branches 135 = .ok (.iload 7, 2) := by decide +kernel
theorem d_MO_branches_137 : decode b_MO_branches 137 = .ok (.aload_n 0, 1) := by decide +kernel
theorem d_MO_branches_138 : decode b_MO_branches 138 = .ok (.getfield 40, 3) := by decide +kernel
theorem d_MO_branches_141 : decode b_MO_branches 141 = .ok (.iconst 4, 1) := by decide +kernel
theorem d_MO_branches_142 : decode b_MO_branches 142 = .ok (.iadd, 1) := by decide +kernel
theorem d_MO_branches_143 : decode b_MO_branches 143 = .ok (.iconst 4, 1) := by decide +kernel
theorem d_MO_branches_144 : decode b_MO_branches 144 = .ok (.iload 5, 2) := by decide +kernel
theorem d_MO_branches_146 : decode b_MO_branches 146 = .ok (.imul, 1) := by decide +kernel
theorem d_MO_branches_147 : decode b_MO_branches 147 = .ok (.iadd, 1) := by decide +kernel
theorem d_MO_branches_148 : decode b_MO_branches 148 = .ok (.iload_n 2, 1) := by decide +kernel
theorem d_MO_branches_149 : decode b_MO_branches 149 = .ok (.bipush 7, 2) := by decide +kernel
theorem d_MO_branches_151 : decode b_MO_branches 151 = .ok (.if_icmp .le 7, 3) := by decide +kernel
theorem d_MO_branches_154 : decode b_MO_branches 154 = .ok (.iconst 1, 1) := by decide +kernel
theorem d_MO_branches_155 : decode b_MO_branches 155 = .ok (.goto 4, 3) := by decide +kernel
theorem d_MO_branches_158 : decode b_MO_branches 158 = .ok (.iconst 0, 1) := by decide +kernel
theorem d_MO_branches_159 : decode b_MO_branches 159 = .ok (.invokevirtual 199, 3) := by decide +kernel
theorem d_MO_branches_162 : decode b_MO_branches 162 = .ok (.return_, 1) := by decide +kernel
set_option maxHeartbeats 4000000 in
set_option maxRecDepth 100000 in
theorem c_MO_branches (l : Launch) (E : Ev) (ad : Nat → Nat) (σ : MS) (a1 : Int32) (a2 : Int32) (a3 : Int32) (a4 : Int32) (a5 : Int32) : rC xCl l E (mW E ad) y_MO_branches b_MO_branches 8 (Option.none : Option Jvm.ClassFile.FieldType) (rmo 1 23) [.ref (ad 0), .int a1, .int a2, .int a3, .int a4, .int a5] σ (zV (f_MO_branches σ a1 a2 a3 a4 a5)) := by
  refine rC.of (by decide) (Nat.le_of_ble_eq_true rfl) ?_
  intro p e s m below meth c A ls hc w hl
  generalize e0 : zV (f_MO_branches σ a1 a2 a3 a4 a5) = Z
  have hc : Cx xCl E A p s m ([.ref (ad 0), .int a1, .int a2, .int a3, .int a4, .int a5] : List Value).toArray meth c b_MO_branches 8 (Option.none : Option Jvm.ClassFile.FieldType) "PageMachineModel" := hc
  have hx := hc.1
  have hb := hc.2.1
  have ho := hc.2.2.2.2.2.1
  have hT := hc.2.2.2.2.2.2.1
  have hl : lv_has ls 8 [(0, .ref (ad 0)), (1, .int a1), (2, .int a2), (3, .int a3), (4, .int a4), (5, .int a5)] := hl
  have J159 : ∀ (w159_1 : Bool) (w159_2 : Int32) (w159_3 : Bool) (H : Heap) (locs : List Loc) (ls : Array Slot), Wd xCl E A s.heap H locs (mW E ad σ) → lv_has ls 8 [] → zV (f_MO_branches_159 σ a1 a2 a3 a4 a5 w159_1 w159_2 w159_3) = Z → W p l e (rmo 1 23) s m ([.ref (ad 0), .int a1, .int a2, .int a3, .int a4, .int a5] : List Value).toArray below meth c H locs 0 0 (MQ below (rQ xCl (mW E ad) E A Z) ([.ref (ad 0), .int a1, .int a2, .int a3, .int a4, .int a5] : List Value).toArray s 0 0 A) (F0 m 159 ls [.int (zb w159_3), .int w159_2, .int (zb w159_1), .ref (ad 0)]) := by
    intro w159_1 w159_2 w159_3 H locs ls w hl e159
    refine cVV (rest := []) hc w (c_MO_branch l E ad σ w159_1 w159_2 w159_3) kv_MO_branch mw_1083 0 rfl rfl ⟨Nat.le_of_ble_eq_true rfl, Nat.le_of_ble_eq_true rfl⟩ hl.1 rfl (Nat.le_of_ble_eq_true rfl) ⟨Nat.zero_le _, Nat.zero_le _⟩ d_MO_branches_159 (fun z159 H locs hs159 w => ?_)
    have e_c4 : zV (f_MO_branches_c4 z159 a1 a2 a3 a4 a5 ) = Z := by rw [← e159, f_MO_branches_159, hs159]
    exact rt_v hc w d_MO_branches_162 (by rw [← e_c4, f_MO_branches_c4] <;> rfl)
  have J132 : ∀ (w132_0 : Bool) (H : Heap) (locs : List Loc) (ls : Array Slot), Wd xCl E A s.heap H locs (mW E ad σ) → lv_has ls 8 [(0, .ref (ad 0)), (2, .int a2), (5, .int a5)] → zV (f_MO_branches_132 σ a1 a2 a3 a4 a5 w132_0) = Z → W p l e (rmo 1 23) s m ([.ref (ad 0), .int a1, .int a2, .int a3, .int a4, .int a5] : List Value).toArray below meth c H locs 0 0 (MQ below (rQ xCl (mW E ad) E A Z) ([.ref (ad 0), .int a1, .int a2, .int a3, .int a4, .int a5] : List Value).toArray s 0 0 A) (F0 m 132 ls [.int (zb w132_0)]) := by
    intro w132_0 H locs ls w hl e132
    refine lv_istore (lv' := [(7, .int (zb w132_0)), (0, .ref (ad 0)), (2, .int a2), (5, .int a5)]) hx hb d_MO_branches_132 hl (by decide) rfl (fun ls hl => ?_)
    refine lv_aload_n hx hb d_MO_branches_134 rfl (lv_at hl 1 rfl) ?_
    refine lv_iload hx hb d_MO_branches_135 (lv_at hl 0 rfl) ?_
    refine lv_aload_n hx hb d_MO_branches_137 rfl (lv_at hl 1 rfl) ?_
    refine g_MO_pc hc w mw_891 d_MO_branches_138 ?_
    refine lv_iconst (v := 4) hx hb d_MO_branches_141 (by decide) ?_
    refine lv_iadd hx hb d_MO_branches_142 ?_
    refine lv_iconst (v := 4) hx hb d_MO_branches_143 (by decide) ?_
    refine lv_iload hx hb d_MO_branches_144 (lv_at hl 3 rfl) ?_
    refine lv_imul hx hb d_MO_branches_146 ?_
    refine lv_iadd hx hb d_MO_branches_147 ?_
    refine lv_iload_n hx hb d_MO_branches_148 rfl (lv_at hl 2 rfl) ?_
    refine lv_bipush (v := 7) hx hb d_MO_branches_149 (by decide) ?_
    refine lv_icmp_le (tgt := 158) hx hb d_MO_branches_151 (by decide) (fun q151 => ?_) (fun q151 => ?_)
    · refine lv_iconst (v := 0) hx hb d_MO_branches_158 (by decide) ?_
      exact J159 w132_0 (((m_pc σ) + (4 : Int32)) + ((4 : Int32) * a5)) false _ _ _ w (lv_sub hl [] rfl) (by rw [← e132, f_MO_branches_132, if_pos q151])
    · refine lv_iconst (v := 1) hx hb d_MO_branches_154 (by decide) ?_
      refine lv_goto (tgt := 159) hx hb d_MO_branches_155 (by decide) ?_
      exact J159 w132_0 (((m_pc σ) + (4 : Int32)) + ((4 : Int32) * a5)) true _ _ _ w (lv_sub hl [] rfl) (by rw [← e132, f_MO_branches_132, if_neg q151])
  have J38 : ∀ (σ38 : MS) (H : Heap) (locs : List Loc) (ls : Array Slot), Wd xCl E A s.heap H locs (mW E ad σ38) → lv_has ls 8 [(0, .ref (ad 0)), (1, .int a1)] → zV (f_MO_branches_38 σ38 a1 a2 a3 a4 a5) = Z → W p l e (rmo 1 23) s m ([.ref (ad 0), .int a1, .int a2, .int a3, .int a4, .int a5] : List Value).toArray below meth c H locs 0 0 (MQ below (rQ xCl (mW E ad) E A Z) ([.ref (ad 0), .int a1, .int a2, .int a3, .int a4, .int a5] : List Value).toArray s 0 0 A) (F0 m 38 ls []) := by
    intro σ38 H locs ls w hl e38
    refine lv_aload_n hx hb d_MO_branches_38 rfl (lv_at hl 0 rfl) ?_
    refine lv_iconst (v := 1) hx hb d_MO_branches_39 (by decide) ?_
    refine lv_aload_n hx hb d_MO_branches_40 rfl (lv_at hl 0 rfl) ?_
    refine g_MO_pc hc w mw_891 d_MO_branches_41 ?_
    refine lv_iconst (v := 4) hx hb d_MO_branches_44 (by decide) ?_
    refine lv_iadd hx hb d_MO_branches_45 ?_
    refine lv_ldc (v := -268435456) hx hb ho (hT _ mw_1126) d_MO_branches_46 ?_
    refine lv_iand hx hb d_MO_branches_48 ?_
    refine lv_iload_n hx hb d_MO_branches_49 rfl (lv_at hl 1 rfl) ?_
    refine lv_ldc (v := 67108863) hx hb ho (hT _ mw_997) d_MO_branches_50 ?_
    refine lv_iand hx hb d_MO_branches_52 ?_
    refine lv_iconst (v := 2) hx hb d_MO_branches_53 (by decide) ?_
    refine lv_ishl hx hb d_MO_branches_54 ?_
    refine lv_ior hx hb d_MO_branches_55 ?_
    refine lv_iconst (v := 0) hx hb d_MO_branches_56 (by decide) ?_
    refine cVV (rest := []) hc w (c_MO_branch l E ad σ38 true ((((m_pc σ38) + (4 : Int32)) &&& (-268435456 : Int32)) ||| ((a1 &&& (67108863 : Int32)) <<< ((2 : Int32) &&& 31))) false) kv_MO_branch mw_1083 0 rfl rfl ⟨Nat.le_of_ble_eq_true rfl, Nat.le_of_ble_eq_true rfl⟩ hl.1 rfl (Nat.le_of_ble_eq_true rfl) ⟨Nat.zero_le _, Nat.zero_le _⟩ d_MO_branches_57 (fun z57 H locs hs57 w => ?_)
    have e_c3 : zV (f_MO_branches_c3 z57 a1 a2 a3 a4 a5 ) = Z := by rw [← e38, f_MO_branches_38, hs57]
    exact rt_v hc w d_MO_branches_60 (by rw [← e_c3, f_MO_branches_c3] <;> rfl)
  refine lv_aload_n hx hb d_MO_branches_0 rfl (lv_at hl 0 rfl) ?_
  refine g_MO_slot hc w mw_894 d_MO_branches_1 ?_
  refine lv_if_eq (tgt := 15) hx hb d_MO_branches_4 (by decide) (fun q4 => ?_) (fun q4 => ?_)
  · refine lv_iload_n hx hb d_MO_branches_15 rfl (lv_at hl 2 rfl) ?_
    refine lv_iconst (v := 4) hx hb d_MO_branches_16 (by decide) ?_
    refine lv_icmp_ge (tgt := 61) hx hb d_MO_branches_17 (by decide) (fun q17 => ?_) (fun q17 => ?_)
    · refine lv_iload_n hx hb d_MO_branches_61 rfl (lv_at hl 2 rfl) ?_
      refine lv_iconst (v := 3) hx hb d_MO_branches_62 (by decide) ?_
      refine lv_iand hx hb d_MO_branches_63 ?_
      refine lv_istore (lv' := [(6, .int (a2 &&& (3 : Int32))), (0, .ref (ad 0)), (1, .int a1), (2, .int a2), (3, .int a3), (4, .int a4), (5, .int a5)]) hx hb d_MO_branches_64 hl (by decide) rfl (fun ls hl => ?_)
      refine lv_iload hx hb d_MO_branches_66 (lv_at hl 0 rfl) ?_
      refine lv_if_ne (tgt := 85) hx hb d_MO_branches_68 (by decide) (fun q68 => ?_) (fun q68 => ?_)
      · refine lv_iload hx hb d_MO_branches_85 (lv_at hl 0 rfl) ?_
        refine lv_iconst (v := 1) hx hb d_MO_branches_87 (by decide) ?_
        refine lv_icmp_ne (tgt := 105) hx hb d_MO_branches_88 (by decide) (fun q88 => ?_) (fun q88 => ?_)
        · refine lv_iload hx hb d_MO_branches_105 (lv_at hl 0 rfl) ?_
          refine lv_iconst (v := 2) hx hb d_MO_branches_107 (by decide) ?_
          refine lv_icmp_ne (tgt := 123) hx hb d_MO_branches_108 (by decide) (fun q108 => ?_) (fun q108 => ?_)
          · refine lv_iload_n hx hb d_MO_branches_123 rfl (lv_at hl 4 rfl) ?_
            refine lv_if_le (tgt := 131) hx hb d_MO_branches_124 (by decide) (fun q124 => ?_) (fun q124 => ?_)
            · refine lv_iconst (v := 0) hx hb d_MO_branches_131 (by decide) ?_
              exact J132 false _ _ _ w (lv_sub hl [1, 3, 6] rfl) (by rw [← e0, f_MO_branches, if_pos q4, if_pos q17, if_neg q68, if_neg q88, if_neg q108, if_pos q124])
            · refine lv_iconst (v := 1) hx hb d_MO_branches_127 (by decide) ?_
              refine lv_goto (tgt := 132) hx hb d_MO_branches_128 (by decide) ?_
              exact J132 true _ _ _ w (lv_sub hl [1, 3, 6] rfl) (by rw [← e0, f_MO_branches, if_pos q4, if_pos q17, if_neg q68, if_neg q88, if_neg q108, if_neg q124])
          · refine lv_iload_n hx hb d_MO_branches_111 rfl (lv_at hl 4 rfl) ?_
            refine lv_if_gt (tgt := 119) hx hb d_MO_branches_112 (by decide) (fun q112 => ?_) (fun q112 => ?_)
            · refine lv_iconst (v := 0) hx hb d_MO_branches_119 (by decide) ?_
              refine lv_goto (tgt := 132) hx hb d_MO_branches_120 (by decide) ?_
              exact J132 false _ _ _ w (lv_sub hl [1, 3, 6] rfl) (by rw [← e0, f_MO_branches, if_pos q4, if_pos q17, if_neg q68, if_neg q88, if_pos q108, if_pos q112])
            · refine lv_iconst (v := 1) hx hb d_MO_branches_115 (by decide) ?_
              refine lv_goto (tgt := 132) hx hb d_MO_branches_116 (by decide) ?_
              exact J132 true _ _ _ w (lv_sub hl [1, 3, 6] rfl) (by rw [← e0, f_MO_branches, if_pos q4, if_pos q17, if_neg q68, if_neg q88, if_pos q108, if_neg q112])
        · refine lv_iload_n hx hb d_MO_branches_91 rfl (lv_at hl 4 rfl) ?_
          refine lv_iload hx hb d_MO_branches_92 (lv_at hl 5 rfl) ?_
          refine lv_icmp_eq (tgt := 101) hx hb d_MO_branches_94 (by decide) (fun q94 => ?_) (fun q94 => ?_)
          · refine lv_iconst (v := 0) hx hb d_MO_branches_101 (by decide) ?_
            refine lv_goto (tgt := 132) hx hb d_MO_branches_102 (by decide) ?_
            exact J132 false _ _ _ w (lv_sub hl [1, 3, 6] rfl) (by rw [← e0, f_MO_branches, if_pos q4, if_pos q17, if_neg q68, if_pos q88, if_pos q94])
          · refine lv_iconst (v := 1) hx hb d_MO_branches_97 (by decide) ?_
            refine lv_goto (tgt := 132) hx hb d_MO_branches_98 (by decide) ?_
            exact J132 true _ _ _ w (lv_sub hl [1, 3, 6] rfl) (by rw [← e0, f_MO_branches, if_pos q4, if_pos q17, if_neg q68, if_pos q88, if_neg q94])
      · refine lv_iload_n hx hb d_MO_branches_71 rfl (lv_at hl 4 rfl) ?_
        refine lv_iload hx hb d_MO_branches_72 (lv_at hl 5 rfl) ?_
        refine lv_icmp_ne (tgt := 81) hx hb d_MO_branches_74 (by decide) (fun q74 => ?_) (fun q74 => ?_)
        · refine lv_iconst (v := 0) hx hb d_MO_branches_81 (by decide) ?_
          refine lv_goto (tgt := 132) hx hb d_MO_branches_82 (by decide) ?_
          exact J132 false _ _ _ w (lv_sub hl [1, 3, 6] rfl) (by rw [← e0, f_MO_branches, if_pos q4, if_pos q17, if_pos q68, if_neg q74])
        · refine lv_iconst (v := 1) hx hb d_MO_branches_77 (by decide) ?_
          refine lv_goto (tgt := 132) hx hb d_MO_branches_78 (by decide) ?_
          exact J132 true _ _ _ w (lv_sub hl [1, 3, 6] rfl) (by rw [← e0, f_MO_branches, if_pos q4, if_pos q17, if_pos q68, if_pos q74])
    · refine lv_iload_n hx hb d_MO_branches_20 rfl (lv_at hl 2 rfl) ?_
      refine lv_iconst (v := 3) hx hb d_MO_branches_21 (by decide) ?_
      refine lv_icmp_ne (tgt := 38) hx hb d_MO_branches_22 (by decide) (fun q22 => ?_) (fun q22 => ?_)
      · exact J38 σ _ _ _ w (lv_sub hl [0, 1] rfl) (by rw [← e0, f_MO_branches, if_pos q4, if_neg q17, if_neg q22])
      · refine lv_aload_n hx hb d_MO_branches_25 rfl (lv_at hl 0 rfl) ?_
        refine lv_bipush (v := 31) hx hb d_MO_branches_26 (by decide) ?_
        refine lv_aload_n hx hb d_MO_branches_28 rfl (lv_at hl 0 rfl) ?_
        refine g_MO_pc hc w mw_891 d_MO_branches_29 ?_
        refine lv_bipush (v := 8) hx hb d_MO_branches_32 (by decide) ?_
        refine lv_iadd hx hb d_MO_branches_34 ?_
        refine cVV (rest := []) hc w (c_MO_put l E ad σ (31 : Int32) ((m_pc σ) + (8 : Int32)) (by unfold vp_in; decide)) kv_MO_put mw_1000 0 rfl rfl ⟨Nat.le_of_ble_eq_true rfl, Nat.le_of_ble_eq_true rfl⟩ hl.1 rfl (Nat.le_of_ble_eq_true rfl) ⟨Nat.zero_le _, Nat.zero_le _⟩ d_MO_branches_35 (fun z35 H locs hs35 w => ?_)
        have e_c1 : zV (f_MO_branches_c1 z35 a1 a2 a3 a4 a5 ) = Z := by rw [← e0, f_MO_branches, if_pos q4, if_neg q17, if_pos q22, hs35]
        exact J38 z35 _ _ _ w (lv_sub hl [0, 1] rfl) (by rw [← e_c1, f_MO_branches_c1])
  · refine lv_aload_n hx hb d_MO_branches_7 rfl (lv_at hl 0 rfl) ?_
    refine lv_bipush (v := 10) hx hb d_MO_branches_8 (by decide) ?_
    refine cVI (rest := []) hc w (c_MO_raise l E ad σ (10 : Int32)) kv_MO_raise mw_1079 0 rfl rfl ⟨Nat.le_of_ble_eq_true rfl, Nat.le_of_ble_eq_true rfl⟩ hl.1 rfl (Nat.le_of_ble_eq_true rfl) ⟨Nat.zero_le _, Nat.zero_le _⟩ d_MO_branches_10 (fun z10 H locs hs10 w => ?_)
    have e_c2 : zV (f_MO_branches_c2 z10 a1 a2 a3 a4 a5 ) = Z := by rw [← e0, f_MO_branches, if_neg q4, hs10]
    refine lv_pop hx hb d_MO_branches_13 rfl ?_
    exact rt_v hc w d_MO_branches_14 (by rw [← e_c2, f_MO_branches_c2] <;> rfl)
-- MO_immediate
def f_MO_immediate_c2 (z145 : MS) (a1 : Int32) (a2 : Int32) (a3 : Int32) (a4 : Int32)  : MS := z145
def f_MO_immediate_139 (σ : MS) (a1 : Int32) (a2 : Int32) (a3 : Int32) (a4 : Int32) (w139_0 : Int32) : MS := f_MO_immediate_c2 (f_MO_put σ a2 w139_0) a1 a2 a3 a4 
def f_MO_immediate_39 (σ : MS) (a1 : Int32) (a2 : Int32) (a3 : Int32) (a4 : Int32) (v39_5 : Int32) : MS := if (10 : Int32) ≤ a1 then (if a1 = (10 : Int32) then (if a4 ≤ a3 then (f_MO_immediate_139 σ a1 a2 a3 a4 (0 : Int32)) else (f_MO_immediate_139 σ a1 a2 a3 a4 (1 : Int32))) else (if a1 = (11 : Int32) then (if (zb (f_MO_isBelow σ a3 a4)) = 0 then (f_MO_immediate_139 σ a1 a2 a3 a4 (0 : Int32)) else (f_MO_immediate_139 σ a1 a2 a3 a4 (1 : Int32))) else (if a1 = (12 : Int32) then (f_MO_immediate_139 σ a1 a2 a3 a4 (a3 &&& v39_5)) else (if a1 = (13 : Int32) then (f_MO_immediate_139 σ a1 a2 a3 a4 (a3 ||| v39_5)) else (if a1 = (14 : Int32) then (f_MO_immediate_139 σ a1 a2 a3 a4 (a3 ^^^ v39_5)) else (f_MO_immediate_139 σ a1 a2 a3 a4 (v39_5 <<< ((16 : Int32) &&& 31)))))))) else (f_MO_immediate_139 σ a1 a2 a3 a4 (a3 + a4))
def f_MO_immediate_c1 (z34 : MS × Int32) (a1 : Int32) (a2 : Int32) (a3 : Int32) (a4 : Int32)  : MS := z34.1
def f_MO_immediate (σ : MS) (a1 : Int32) (a2 : Int32) (a3 : Int32) (a4 : Int32) : MS := if a1 = (8 : Int32) then (if (lg_cmp ((Int32.toInt64 a3) + (Int32.toInt64 a4)) (Int32.toInt64 (Int64.toInt32 ((Int32.toInt64 a3) + (Int32.toInt64 a4))))) = 0 then (f_MO_immediate_39 σ a1 a2 a3 a4 (a4 &&& (65535 : Int32))) else (f_MO_immediate_c1 (f_MO_raise σ (12 : Int32)) a1 a2 a3 a4 )) else (f_MO_immediate_39 σ a1 a2 a3 a4 (a4 &&& (65535 : Int32)))
theorem d_MO_immediate_0 : decode b_MO_immediate 0 = .ok (.iload 4, 2) := by decide +kernel
theorem d_MO_immediate_2 : decode b_MO_immediate 2 = .ok (.ldc 232, 2) := by decide +kernel
theorem d_MO_immediate_4 : decode b_MO_immediate 4 = .ok (.iand, 1) := by decide +kernel
theorem d_MO_immediate_5 : decode b_MO_immediate 5 = .ok (.istore 5, 2) := by decide +kernel
theorem d_MO_immediate_7 : decode b_MO_immediate 7 = .ok (.iload_n 3, 1) := by decide +kernel
theorem d_MO_immediate_8 : decode b_MO_immediate 8 = .ok (.i2l, 1) := by decide +kernel
theorem d_MO_immediate_9 : decode b_MO_immediate 9 = .ok (.iload 4, 2) := by decide +kernel
theorem d_MO_immediate_11 : decode b_MO_immediate 11 = .ok (.i2l, 1) := by decide +kernel
theorem d_MO_immediate_12 : decode b_MO_immediate 12 = .ok (.ladd, 1) := by decide +kernel
theorem d_MO_immediate_13 : decode b_MO_immediate 13 = .ok (.lstore 6, 2) := by decide +kernel
theorem d_MO_immediate_15 : decode b_MO_immediate 15 = .ok (.iload_n 1, 1) := by decide +kernel
theorem d_MO_immediate_16 : decode b_MO_immediate 16 = .ok (.bipush 8, 2) := by decide +kernel
theorem d_MO_immediate_18 : decode b_MO_immediate 18 = .ok (.if_icmp .ne 21, 3) := by decide +kernel
theorem d_MO_immediate_21 : decode b_MO_immediate 21 = .ok (.lload 6, 2) := by decide +kernel
theorem d_MO_immediate_23 : decode b_MO_immediate 23 = .ok (.lload 6, 2) := by decide +kernel
theorem d_MO_immediate_25 : decode b_MO_immediate 25 = .ok (.l2i, 1) := by decide +kernel
theorem d_MO_immediate_26 : decode b_MO_immediate 26 = .ok (.i2l, 1) := by decide +kernel
theorem d_MO_immediate_27 : decode b_MO_immediate 27 = .ok (.lcmp, 1) := by decide +kernel
theorem d_MO_immediate_28 : decode b_MO_immediate 28 = .ok (.ifCond .eq 11, 3) := by decide +kernel
theorem d_MO_immediate_31 : decode b_MO_immediate 31 = .ok (.aload_n 0, 1) := by decide +kernel
theorem d_MO_immediate_32 : decode b_MO_immediate 32 = .ok (.bipush 12, 2) := by decide +kernel
theorem d_MO_immediate_34 : decode b_MO_immediate 34 = .ok (.invokevirtual 196, 3) := by decide +kernel
theorem d_MO_immediate_37 : decode b_MO_immediate 37 = .ok (.pop, 1) := by decide +kernel
theorem d_MO_immediate_38 : decode b_MO_immediate 38 = .ok (.return_, 1) := by decide +kernel
theorem d_MO_immediate_39 : decode b_MO_immediate 39 = .ok (.iload_n 1, 1) := by decide +kernel
theorem d_MO_immediate_40 : decode b_MO_immediate 40 = .ok (.bipush 10, 2) := by decide +kernel
theorem d_MO_immediate_42 : decode b_MO_immediate 42 = .ok (.if_icmp .ge 10, 3) := by decide +kernel
theorem d_MO_immediate_45 : decode b_MO_immediate 45 = .ok (.iload_n 3, 1) := by decide +kernel
theorem d_MO_immediate_46 : decode b_MO_immediate 46 = .ok (.iload 4, 2) := by decide +kernel
theorem d_MO_immediate_48 : decode b_MO_immediate 48 = .ok (.iadd, 1) := by decide +kernel
theorem d_MO_immediate_49 : decode b_MO_immediate 49 = .ok (.goto 90, 3) := by decide +kernel
theorem d_MO_immediate_52 : decode b_MO_immediate 52 = .ok (.iload_n 1, 1) := by decide +kernel
theorem d_MO_immediate_53 : decode b_MO_immediate 53 = .ok (.bipush 10, 2) := by decide +kernel
theorem d_MO_immediate_55 : decode b_MO_immediate 55 = .ok (.if_icmp .ne 17, 3) := by decide +kernel
theorem d_MO_immediate_58 : decode b_MO_immediate 58 = .ok (.iload_n 3, 1) := by decide +kernel
theorem d_MO_immediate_59 : decode b_MO_immediate 59 = .ok (.iload 4, 2) := by decide +kernel
theorem d_MO_immediate_61 : decode b_MO_immediate 61 = .ok (.if_icmp .ge 7, 3) := by decide +kernel
theorem d_MO_immediate_64 : decode b_MO_immediate 64 = .ok (.iconst 1, 1) := by decide +kernel
theorem d_MO_immediate_65 : decode b_MO_immediate 65 = .ok (.goto 74, 3) := by decide +kernel
theorem d_MO_immediate_68 : decode b_MO_immediate 68 = .ok (.iconst 0, 1) := by decide +kernel
theorem d_MO_immediate_69 : decode b_MO_immediate 69 = .ok (.goto 70, 3) := by decide +kernel
theorem d_MO_immediate_72 : decode b_MO_immediate 72 = .ok (.iload_n 1, 1) := by decide +kernel
theorem d_MO_immediate_73 : decode b_MO_immediate 73 = .ok (.bipush 11, 2) := by decide +kernel
theorem d_MO_immediate_75 : decode b_MO_immediate 75 = .ok (.if_icmp .ne 20, 3) := by decide +kernel
theorem d_MO_immediate_78 : decode b_MO_immediate 78 = .ok (.iload_n 3, 1) := by decide +kernel
theorem d_MO_immediate_79 : decode b_MO_immediate 79 = .ok (.iload 4, 2) := by decide +kernel
theorem d_MO_immediate_81 : decode b_MO_immediate 81 = .ok (.invokestatic 228, 3) := by decide +kernel
theorem d_MO_immediate_84 : decode b_MO_immediate 84 = .ok (.ifCond .eq 7, 3) := by decide +kernel
theorem d_MO_immediate_87 : decode b_MO_immediate 87 = .ok (.iconst 1, 1) := by decide +kernel
theorem d_MO_immediate_88 : decode b_MO_immediate 88 = .ok (.goto 51, 3) := by decide +kernel
theorem d_MO_immediate_91 : decode b_MO_immediate 91 = .ok (.iconst 0, 1) := by decide +kernel
theorem d_MO_immediate_92 : decode b_MO_immediate 92 = .ok (.goto 47, 3) := by decide +kernel
theorem d_MO_immediate_95 : decode b_MO_immediate 95 = .ok (.iload_n 1, 1) := by decide +kernel
theorem d_MO_immediate_96 : decode b_MO_immediate 96 = .ok (.bipush 12, 2) := by decide +kernel
theorem d_MO_immediate_98 : decode b_MO_immediate 98 = .ok (.if_icmp .ne 10, 3) := by decide +kernel
theorem d_MO_immediate_101 : decode b_MO_immediate 101 = .ok (.iload_n 3, 1) := by decide +kernel
theorem d_MO_immediate_102 : decode b_MO_immediate 102 = .ok (.iload 5, 2) := by decide +kernel
theorem d_MO_immediate_104 : decode b_MO_immediate 104 = .ok (.iand, 1) := by decide +kernel
theorem d_MO_immediate_105 : decode b_MO_immediate 105 = .ok (.goto 34, 3) := by decide +kernel
theorem d_MO_immediate_108 : decode b_MO_immediate 108 = .ok (.iload_n 1, 1) := by decide +kernel
theorem d_MO_immediate_109 : decode b_MO_immediate 109 = .ok (.bipush 13, 2) := by decide +kernel
theorem d_MO_immediate_111 : decode b_MO_immediate 111 = .ok (.if_icmp .ne 10, 3) := by decide +kernel
theorem d_MO_immediate_114 : decode b_MO_immediate 114 = .ok (.iload_n 3, 1) := by decide +kernel
theorem d_MO_immediate_115 : decode b_MO_immediate 115 = .ok (.iload 5, 2) := by decide +kernel
theorem d_MO_immediate_117 : decode b_MO_immediate 117 = .ok (.ior, 1) := by decide +kernel
theorem d_MO_immediate_118 : decode b_MO_immediate 118 = .ok (.goto 21, 3) := by decide +kernel
theorem d_MO_immediate_121 : decode b_MO_immediate 121 = .ok (.iload_n 1, 1) := by decide +kernel
theorem d_MO_immediate_122 : decode b_MO_immediate 122 = .ok (.bipush 14, 2) := by decide +kernel
theorem d_MO_immediate_124 : decode b_MO_immediate 124 = .ok (.if_icmp .ne 10, 3) := by decide +kernel
theorem d_MO_immediate_127 : decode b_MO_immediate 127 = .ok (.iload_n 3, 1) := by decide +kernel
theorem d_MO_immediate_128 : decode b_MO_immediate 128 = .ok (.iload 5, 2) := by decide +kernel
theorem d_MO_immediate_130 : decode b_MO_immediate 130 = .ok (.ixor, 1) := by decide +kernel
theorem d_MO_immediate_131 : decode b_MO_immediate 131 = .ok (.goto 8, 3) := by decide +kernel
theorem d_MO_immediate_134 : decode b_MO_immediate 134 = .ok (.iload 5, 2) := by decide +kernel
theorem d_MO_immediate_136 : decode b_MO_immediate 136 = .ok (.bipush 16, 2) := by decide +kernel
theorem d_MO_immediate_138 : decode b_MO_immediate 138 = .ok (.ishl, 1) := by decide +kernel
theorem d_MO_immediate_139 : decode b_MO_immediate 139 = .ok (.istore 8, 2) := by decide +kernel
theorem d_MO_immediate_141 : decode b_MO_immediate 141 = .ok (.aload_n 0, 1) := by decide +kernel
theorem d_MO_immediate_142 : decode b_MO_immediate 142 = .ok (.iload_n 2, 1) := by decide +kernel
theorem d_MO_immediate_143 : decode b_MO_immediate 143 = .ok (.iload 8, 2) := by decide +kernel
theorem d_MO_immediate_145 : decode b_MO_immediate 145 = .ok (.invokevirtual 78, 3) := by decide +kernel
theorem d_MO_immediate_148 : decode b_MO_immediate 148 = .ok (.return_, 1) := by decide +kernel
set_option maxHeartbeats 4000000 in
set_option maxRecDepth 100000 in
theorem c_MO_immediate (l : Launch) (E : Ev) (ad : Nat → Nat) (σ : MS) (a1 : Int32) (a2 : Int32) (a3 : Int32) (a4 : Int32) (h1 : vp_in a2 32) : rC xCl l E (mW E ad) y_MO_immediate b_MO_immediate 9 (Option.none : Option Jvm.ClassFile.FieldType) (rmo 1 22) [.ref (ad 0), .int a1, .int a2, .int a3, .int a4] σ (zV (f_MO_immediate σ a1 a2 a3 a4)) := by
  refine rC.of (by decide) (Nat.le_of_ble_eq_true rfl) ?_
  intro p e s m below meth c A ls hc w hl
  generalize e0 : zV (f_MO_immediate σ a1 a2 a3 a4) = Z
  have hc : Cx xCl E A p s m ([.ref (ad 0), .int a1, .int a2, .int a3, .int a4] : List Value).toArray meth c b_MO_immediate 9 (Option.none : Option Jvm.ClassFile.FieldType) "PageMachineModel" := hc
  have hx := hc.1
  have hb := hc.2.1
  have ho := hc.2.2.2.2.2.1
  have hT := hc.2.2.2.2.2.2.1
  have hl : lv_has ls 9 [(0, .ref (ad 0)), (1, .int a1), (2, .int a2), (3, .int a3), (4, .int a4)] := hl
  have J139 : ∀ (w139_0 : Int32) (H : Heap) (locs : List Loc) (ls : Array Slot), Wd xCl E A s.heap H locs (mW E ad σ) → lv_has ls 9 [(0, .ref (ad 0)), (2, .int a2)] → zV (f_MO_immediate_139 σ a1 a2 a3 a4 w139_0) = Z → W p l e (rmo 1 22) s m ([.ref (ad 0), .int a1, .int a2, .int a3, .int a4] : List Value).toArray below meth c H locs 0 0 (MQ below (rQ xCl (mW E ad) E A Z) ([.ref (ad 0), .int a1, .int a2, .int a3, .int a4] : List Value).toArray s 0 0 A) (F0 m 139 ls [.int w139_0]) := by
    intro w139_0 H locs ls w hl e139
    refine lv_istore (lv' := [(8, .int w139_0), (0, .ref (ad 0)), (2, .int a2)]) hx hb d_MO_immediate_139 hl (by decide) rfl (fun ls hl => ?_)
    refine lv_aload_n hx hb d_MO_immediate_141 rfl (lv_at hl 1 rfl) ?_
    refine lv_iload_n hx hb d_MO_immediate_142 rfl (lv_at hl 2 rfl) ?_
    refine lv_iload hx hb d_MO_immediate_143 (lv_at hl 0 rfl) ?_
    refine cVV (rest := []) hc w (c_MO_put l E ad σ a2 w139_0 h1) kv_MO_put mw_1000 0 rfl rfl ⟨Nat.le_of_ble_eq_true rfl, Nat.le_of_ble_eq_true rfl⟩ hl.1 rfl (Nat.le_of_ble_eq_true rfl) ⟨Nat.zero_le _, Nat.zero_le _⟩ d_MO_immediate_145 (fun z145 H locs hs145 w => ?_)
    have e_c2 : zV (f_MO_immediate_c2 z145 a1 a2 a3 a4 ) = Z := by rw [← e139, f_MO_immediate_139, hs145]
    exact rt_v hc w d_MO_immediate_148 (by rw [← e_c2, f_MO_immediate_c2] <;> rfl)
  have J39 : ∀ (v39_5 : Int32) (H : Heap) (locs : List Loc) (ls : Array Slot), Wd xCl E A s.heap H locs (mW E ad σ) → lv_has ls 9 [(5, .int v39_5), (0, .ref (ad 0)), (1, .int a1), (2, .int a2), (3, .int a3), (4, .int a4)] → zV (f_MO_immediate_39 σ a1 a2 a3 a4 v39_5) = Z → W p l e (rmo 1 22) s m ([.ref (ad 0), .int a1, .int a2, .int a3, .int a4] : List Value).toArray below meth c H locs 0 0 (MQ below (rQ xCl (mW E ad) E A Z) ([.ref (ad 0), .int a1, .int a2, .int a3, .int a4] : List Value).toArray s 0 0 A) (F0 m 39 ls []) := by
    intro v39_5 H locs ls w hl e39
    refine lv_iload_n hx hb d_MO_immediate_39 rfl (lv_at hl 2 rfl) ?_
    refine lv_bipush (v := 10) hx hb d_MO_immediate_40 (by decide) ?_
    refine lv_icmp_ge (tgt := 52) hx hb d_MO_immediate_42 (by decide) (fun q42 => ?_) (fun q42 => ?_)
    · refine lv_iload_n hx hb d_MO_immediate_52 rfl (lv_at hl 2 rfl) ?_
      refine lv_bipush (v := 10) hx hb d_MO_immediate_53 (by decide) ?_
      refine lv_icmp_ne (tgt := 72) hx hb d_MO_immediate_55 (by decide) (fun q55 => ?_) (fun q55 => ?_)
      · refine lv_iload_n hx hb d_MO_immediate_72 rfl (lv_at hl 2 rfl) ?_
        refine lv_bipush (v := 11) hx hb d_MO_immediate_73 (by decide) ?_
        refine lv_icmp_ne (tgt := 95) hx hb d_MO_immediate_75 (by decide) (fun q75 => ?_) (fun q75 => ?_)
        · refine lv_iload_n hx hb d_MO_immediate_95 rfl (lv_at hl 2 rfl) ?_
          refine lv_bipush (v := 12) hx hb d_MO_immediate_96 (by decide) ?_
          refine lv_icmp_ne (tgt := 108) hx hb d_MO_immediate_98 (by decide) (fun q98 => ?_) (fun q98 => ?_)
          · refine lv_iload_n hx hb d_MO_immediate_108 rfl (lv_at hl 2 rfl) ?_
            refine lv_bipush (v := 13) hx hb d_MO_immediate_109 (by decide) ?_
            refine lv_icmp_ne (tgt := 121) hx hb d_MO_immediate_111 (by decide) (fun q111 => ?_) (fun q111 => ?_)
            · refine lv_iload_n hx hb d_MO_immediate_121 rfl (lv_at hl 2 rfl) ?_
              refine lv_bipush (v := 14) hx hb d_MO_immediate_122 (by decide) ?_
              refine lv_icmp_ne (tgt := 134) hx hb d_MO_immediate_124 (by decide) (fun q124 => ?_) (fun q124 => ?_)
              · refine lv_iload hx hb d_MO_immediate_134 (lv_at hl 0 rfl) ?_
                refine lv_bipush (v := 16) hx hb d_MO_immediate_136 (by decide) ?_
                refine lv_ishl hx hb d_MO_immediate_138 ?_
                exact J139 (v39_5 <<< ((16 : Int32) &&& 31)) _ _ _ w (lv_sub hl [1, 3] rfl) (by rw [← e39, f_MO_immediate_39, if_pos q42, if_neg q55, if_neg q75, if_neg q98, if_neg q111, if_neg q124])
              · refine lv_iload_n hx hb d_MO_immediate_127 rfl (lv_at hl 4 rfl) ?_
                refine lv_iload hx hb d_MO_immediate_128 (lv_at hl 0 rfl) ?_
                refine lv_ixor hx hb d_MO_immediate_130 ?_
                refine lv_goto (tgt := 139) hx hb d_MO_immediate_131 (by decide) ?_
                exact J139 (a3 ^^^ v39_5) _ _ _ w (lv_sub hl [1, 3] rfl) (by rw [← e39, f_MO_immediate_39, if_pos q42, if_neg q55, if_neg q75, if_neg q98, if_neg q111, if_pos q124])
            · refine lv_iload_n hx hb d_MO_immediate_114 rfl (lv_at hl 4 rfl) ?_
              refine lv_iload hx hb d_MO_immediate_115 (lv_at hl 0 rfl) ?_
              refine lv_ior hx hb d_MO_immediate_117 ?_
              refine lv_goto (tgt := 139) hx hb d_MO_immediate_118 (by decide) ?_
              exact J139 (a3 ||| v39_5) _ _ _ w (lv_sub hl [1, 3] rfl) (by rw [← e39, f_MO_immediate_39, if_pos q42, if_neg q55, if_neg q75, if_neg q98, if_pos q111])
          · refine lv_iload_n hx hb d_MO_immediate_101 rfl (lv_at hl 4 rfl) ?_
            refine lv_iload hx hb d_MO_immediate_102 (lv_at hl 0 rfl) ?_
            refine lv_iand hx hb d_MO_immediate_104 ?_
            refine lv_goto (tgt := 139) hx hb d_MO_immediate_105 (by decide) ?_
            exact J139 (a3 &&& v39_5) _ _ _ w (lv_sub hl [1, 3] rfl) (by rw [← e39, f_MO_immediate_39, if_pos q42, if_neg q55, if_neg q75, if_pos q98])
        · refine lv_iload_n hx hb d_MO_immediate_78 rfl (lv_at hl 4 rfl) ?_
          refine lv_iload hx hb d_MO_immediate_79 (lv_at hl 5 rfl) ?_
          refine rSZ (rest := []) hc w (c_MO_isBelow l E ad σ a3 a4) ks_MO_isBelow mw_1111 ⟨Nat.le_of_ble_eq_true rfl, Nat.le_of_ble_eq_true rfl⟩ hl.1 rfl (Nat.le_of_ble_eq_true rfl) ⟨Nat.zero_le _, Nat.zero_le _⟩ d_MO_immediate_81 (fun H locs w => ?_)
          refine lv_if_eq (tgt := 91) hx hb d_MO_immediate_84 (by decide) (fun q84 => ?_) (fun q84 => ?_)
          · refine lv_iconst (v := 0) hx hb d_MO_immediate_91 (by decide) ?_
            refine lv_goto (tgt := 139) hx hb d_MO_immediate_92 (by decide) ?_
            exact J139 (0 : Int32) _ _ _ w (lv_sub hl [1, 3] rfl) (by rw [← e39, f_MO_immediate_39, if_pos q42, if_neg q55, if_pos q75, if_pos q84])
          · refine lv_iconst (v := 1) hx hb d_MO_immediate_87 (by decide) ?_
            refine lv_goto (tgt := 139) hx hb d_MO_immediate_88 (by decide) ?_
            exact J139 (1 : Int32) _ _ _ w (lv_sub hl [1, 3] rfl) (by rw [← e39, f_MO_immediate_39, if_pos q42, if_neg q55, if_pos q75, if_neg q84])
      · refine lv_iload_n hx hb d_MO_immediate_58 rfl (lv_at hl 4 rfl) ?_
        refine lv_iload hx hb d_MO_immediate_59 (lv_at hl 5 rfl) ?_
        refine lv_icmp_ge (tgt := 68) hx hb d_MO_immediate_61 (by decide) (fun q61 => ?_) (fun q61 => ?_)
        · refine lv_iconst (v := 0) hx hb d_MO_immediate_68 (by decide) ?_
          refine lv_goto (tgt := 139) hx hb d_MO_immediate_69 (by decide) ?_
          exact J139 (0 : Int32) _ _ _ w (lv_sub hl [1, 3] rfl) (by rw [← e39, f_MO_immediate_39, if_pos q42, if_pos q55, if_pos q61])
        · refine lv_iconst (v := 1) hx hb d_MO_immediate_64 (by decide) ?_
          refine lv_goto (tgt := 139) hx hb d_MO_immediate_65 (by decide) ?_
          exact J139 (1 : Int32) _ _ _ w (lv_sub hl [1, 3] rfl) (by rw [← e39, f_MO_immediate_39, if_pos q42, if_pos q55, if_neg q61])
    · refine lv_iload_n hx hb d_MO_immediate_45 rfl (lv_at hl 4 rfl) ?_
      refine lv_iload hx hb d_MO_immediate_46 (lv_at hl 5 rfl) ?_
      refine lv_iadd hx hb d_MO_immediate_48 ?_
      refine lv_goto (tgt := 139) hx hb d_MO_immediate_49 (by decide) ?_
      exact J139 (a3 + a4) _ _ _ w (lv_sub hl [1, 3] rfl) (by rw [← e39, f_MO_immediate_39, if_neg q42])
  refine lv_iload hx hb d_MO_immediate_0 (lv_at hl 4 rfl) ?_
  refine lv_ldc (v := 65535) hx hb ho (hT _ mw_1131) d_MO_immediate_2 ?_
  refine lv_iand hx hb d_MO_immediate_4 ?_
  refine lv_istore (lv' := [(5, .int (a4 &&& (65535 : Int32))), (0, .ref (ad 0)), (1, .int a1), (2, .int a2), (3, .int a3), (4, .int a4)]) hx hb d_MO_immediate_5 hl (by decide) rfl (fun ls hl => ?_)
  refine lv_iload_n hx hb d_MO_immediate_7 rfl (lv_at hl 4 rfl) ?_
  refine lv_i2l hx hb d_MO_immediate_8 rfl ?_
  refine lv_iload hx hb d_MO_immediate_9 (lv_at hl 5 rfl) ?_
  refine lv_i2l hx hb d_MO_immediate_11 rfl ?_
  refine lv_ladd hx hb d_MO_immediate_12 ?_
  refine lv_lstore (lv' := [(6, .long ((Int32.toInt64 a3) + (Int32.toInt64 a4))), (5, .int (a4 &&& (65535 : Int32))), (0, .ref (ad 0)), (1, .int a1), (2, .int a2), (3, .int a3), (4, .int a4)]) hx hb d_MO_immediate_13 hl (by decide) rfl (fun ls hl => ?_)
  refine lv_iload_n hx hb d_MO_immediate_15 rfl (lv_at hl 3 rfl) ?_
  refine lv_bipush (v := 8) hx hb d_MO_immediate_16 (by decide) ?_
  refine lv_icmp_ne (tgt := 39) hx hb d_MO_immediate_18 (by decide) (fun q18 => ?_) (fun q18 => ?_)
  · exact J39 (a4 &&& (65535 : Int32)) _ _ _ w (lv_sub hl [1, 2, 3, 4, 5, 6] rfl) (by rw [← e0, f_MO_immediate, if_neg q18])
  · refine lv_lload hx hb d_MO_immediate_21 (lv_at hl 0 rfl) ?_
    refine lv_lload hx hb d_MO_immediate_23 (lv_at hl 0 rfl) ?_
    refine lv_l2i hx hb d_MO_immediate_25 rfl ?_
    refine lv_i2l hx hb d_MO_immediate_26 rfl ?_
    refine W.lcmp hx hb d_MO_immediate_27 ?_
    refine lv_if_eq (tgt := 39) hx hb d_MO_immediate_28 (by decide) (fun q28 => ?_) (fun q28 => ?_)
    · exact J39 (a4 &&& (65535 : Int32)) _ _ _ w (lv_sub hl [1, 2, 3, 4, 5, 6] rfl) (by rw [← e0, f_MO_immediate, if_pos q18, if_pos q28])
    · refine lv_aload_n hx hb d_MO_immediate_31 rfl (lv_at hl 2 rfl) ?_
      refine lv_bipush (v := 12) hx hb d_MO_immediate_32 (by decide) ?_
      refine cVI (rest := []) hc w (c_MO_raise l E ad σ (12 : Int32)) kv_MO_raise mw_1079 0 rfl rfl ⟨Nat.le_of_ble_eq_true rfl, Nat.le_of_ble_eq_true rfl⟩ hl.1 rfl (Nat.le_of_ble_eq_true rfl) ⟨Nat.zero_le _, Nat.zero_le _⟩ d_MO_immediate_34 (fun z34 H locs hs34 w => ?_)
      have e_c1 : zV (f_MO_immediate_c1 z34 a1 a2 a3 a4 ) = Z := by rw [← e0, f_MO_immediate, if_pos q18, if_neg q28, hs34]
      refine lv_pop hx hb d_MO_immediate_37 rfl ?_
      exact rt_v hc w d_MO_immediate_38 (by rw [← e_c1, f_MO_immediate_c1] <;> rfl)
-- MO_zeros
def f_MO_zeros_2 : Nat → MS → Int32 → Int32 → Int32
  | 0, σ, a1, v2_1 => 0
  | fuel + 1, σ, a1, v2_1 => if (32 : Int32) ≤ v2_1 then (v2_1) else (if ((a1 >>> (((31 : Int32) - v2_1) &&& 31)) &&& (1 : Int32)) = 0 then (f_MO_zeros_2 fuel σ a1 (v2_1 + (1 : Int32))) else (v2_1))
def f_MO_zeros (σ : MS) (a1 : Int32) : Int32 := f_MO_zeros_2 33 σ a1 (0 : Int32)
theorem d_MO_zeros_0 : decode b_MO_zeros 0 = .ok (.iconst 0, 1) := by decide +kernel
theorem d_MO_zeros_1 : decode b_MO_zeros 1 = .ok (.istore_n 1, 1) := by decide +kernel
theorem d_MO_zeros_2 : decode b_MO_zeros 2 = .ok (.iload_n 1, 1) := by decide +kernel
theorem d_MO_zeros_3 : decode b_MO_zeros 3 = .ok (.bipush 32, 2) := by decide +kernel
theorem d_MO_zeros_5 : decode b_MO_zeros 5 = .ok (.if_icmp .ge 20, 3) := by decide +kernel
theorem d_MO_zeros_8 : decode b_MO_zeros 8 = .ok (.iload_n 0, 1) := by decide +kernel
theorem d_MO_zeros_9 : decode b_MO_zeros 9 = .ok (.bipush 31, 2) := by decide +kernel
theorem d_MO_zeros_11 : decode b_MO_zeros 11 = .ok (.iload_n 1, 1) := by decide +kernel
theorem d_MO_zeros_12 : decode b_MO_zeros 12 = .ok (.isub, 1) := by decide +kernel
theorem d_MO_zeros_13 : decode b_MO_zeros 13 = .ok (.ishr, 1) := by decide +kernel
theorem d_MO_zeros_14 : decode b_MO_zeros 14 = .ok (.iconst 1, 1) := by decide +kernel
theorem d_MO_zeros_15 : decode b_MO_zeros 15 = .ok (.iand, 1) := by decide +kernel
theorem d_MO_zeros_16 : decode b_MO_zeros 16 = .ok (.ifCond .ne 9, 3) := by decide +kernel
theorem d_MO_zeros_19 : decode b_MO_zeros 19 = .ok (.iinc 1 1, 3) := by decide +kernel
theorem d_MO_zeros_22 : decode b_MO_zeros 22 = .ok (.goto (-20), 3) := by decide +kernel
theorem d_MO_zeros_25 : decode b_MO_zeros 25 = .ok (.iload_n 1, 1) := by decide +kernel
theorem d_MO_zeros_26 : decode b_MO_zeros 26 = .ok (.ireturn, 1) := by decide +kernel
set_option maxHeartbeats 4000000 in
set_option maxRecDepth 100000 in
theorem c_MO_zeros (l : Launch) (E : Ev) (ad : Nat → Nat) (σ : MS) (a1 : Int32) : rC xCl l E (mW E ad) y_MO_zeros b_MO_zeros 2 (Option.some Jvm.ClassFile.FieldType.int) (rmo 0 0) [.int a1] σ ((σ, some (Value.int (f_MO_zeros σ a1)))) := by
  refine rC.of (by decide) (Nat.le_of_ble_eq_true rfl) ?_
  intro p e s m below meth c A ls hc w hl
  generalize e0 : (σ, some (Value.int (f_MO_zeros σ a1))) = Z
  have hc : Cx xCl E A p s m ([.int a1] : List Value).toArray meth c b_MO_zeros 2 (Option.some Jvm.ClassFile.FieldType.int) "PageMachineModel" := hc
  have hx := hc.1
  have hb := hc.2.1
  have ho := hc.2.2.2.2.2.1
  have hT := hc.2.2.2.2.2.2.1
  have hl : lv_has ls 2 [(0, .int a1)] := hl
  have J2 : ∀ (fuel : Nat) (v2_1 : Int32) , (∃ i : Nat, v2_1 = nI i ∧ i ≤ 32 ∧ i + fuel = 33) → ∀ (H : Heap) (locs : List Loc) (ls : Array Slot), Wd xCl E A s.heap H locs (mW E ad σ) → lv_has ls 2 [(1, .int v2_1), (0, .int a1)] → (σ, some (Value.int (f_MO_zeros_2 fuel σ a1 v2_1))) = Z → W p l e (rmo 0 0) s m ([.int a1] : List Value).toArray below meth c H locs 0 0 (MQ below (rQ xCl (mW E ad) E A Z) ([.int a1] : List Value).toArray s 0 0 A) (F0 m 2 ls []) := by
    intro fuel
    induction fuel with
    | zero =>
      intro v2_1 hinv
      exact absurd hinv (fun ⟨i, _, h1, h2⟩ => by omega)
    | succ fuel ih =>
      intro v2_1 hinv H locs ls w hl e2
      obtain ⟨i, hi, hj1, hj2⟩ := hinv
      refine lv_iload_n hx hb d_MO_zeros_2 rfl (lv_at hl 0 rfl) ?_
      refine lv_bipush (v := 32) hx hb d_MO_zeros_3 (by decide) ?_
      refine lv_icmp_ge (tgt := 25) hx hb d_MO_zeros_5 (by decide) (fun q5 => ?_) (fun q5 => ?_)
      · refine lv_iload_n hx hb d_MO_zeros_25 rfl (lv_at hl 0 rfl) ?_
        exact rt_i hc w d_MO_zeros_26 (by rw [← e2, f_MO_zeros_2, if_pos q5] <;> rfl)
      · refine lv_iload_n hx hb d_MO_zeros_8 rfl (lv_at hl 1 rfl) ?_
        refine lv_bipush (v := 31) hx hb d_MO_zeros_9 (by decide) ?_
        refine lv_iload_n hx hb d_MO_zeros_11 rfl (lv_at hl 0 rfl) ?_
        refine lv_isub hx hb d_MO_zeros_12 ?_
        refine lv_ishr hx hb d_MO_zeros_13 ?_
        refine lv_iconst (v := 1) hx hb d_MO_zeros_14 (by decide) ?_
        refine lv_iand hx hb d_MO_zeros_15 ?_
        refine lv_if_ne (tgt := 25) hx hb d_MO_zeros_16 (by decide) (fun q16 => ?_) (fun q16 => ?_)
        · refine lv_iload_n hx hb d_MO_zeros_25 rfl (lv_at hl 0 rfl) ?_
          exact rt_i hc w d_MO_zeros_26 (by rw [← e2, f_MO_zeros_2, if_neg q5, if_neg q16] <;> rfl)
        · refine lv_iinc (v := v2_1 + (1 : Int32)) (lv' := [(1, .int (v2_1 + (1 : Int32))), (0, .int a1)]) hx hb d_MO_zeros_19 hl (k := 0) rfl rfl (by decide) rfl (fun ls hl => ?_)
          refine lv_goto (tgt := 2) hx hb d_MO_zeros_22 (by decide) ?_
          exact ih (v2_1 + (1 : Int32)) (⟨i + 1, (bd_lt hi (N := 32) rfl q5 (by decide) (by omega)).2.2, (bd_lt hi (N := 32) rfl q5 (by decide) (by omega)).1, by omega⟩) _ _ _ w (lv_sub hl [0, 1] rfl) (by rw [← e2, f_MO_zeros_2, if_neg q5, if_pos q16])
  refine lv_iconst (v := 0) hx hb d_MO_zeros_0 (by decide) ?_
  refine lv_istore_n (lv' := [(1, .int (0 : Int32)), (0, .int a1)]) hx hb d_MO_zeros_1 rfl hl (by decide) rfl (fun ls hl => ?_)
  exact J2 33 (0 : Int32) (⟨0, rfl, by omega, by omega⟩) _ _ _ w (lv_sub hl [0, 1] rfl) (by rw [← e0, f_MO_zeros])
-- MO_multiplies
def f_MO_multiplies_c5 (z104 : MS) (a1 : Int32) (a2 : Int32) (a3 : Int32)  : MS := z104
def f_MO_multiplies_98 (σ : MS) (a1 : Int32) (a2 : Int32) (a3 : Int32) (v98_9 : Int64) (v98_6 : Int64) : MS := f_MO_multiplies_c5 (f_MO_setBoth σ (v98_6 - v98_9)) a1 a2 a3 
def f_MO_multiplies_c4 (z162 : MS) (a1 : Int32) (a2 : Int32) (a3 : Int32)  : MS := z162
def f_MO_multiplies_159 (σ : MS) (a1 : Int32) (a2 : Int32) (a3 : Int32) (w159_1 : Int32) (w159_2 : Int32) : MS := f_MO_multiplies_c4 (f_MO_put σ w159_1 (f_MO_zeros σ w159_2)) a1 a2 a3 
def f_MO_multiplies_142 (σ : MS) (a1 : Int32) (a2 : Int32) (a3 : Int32) (v142_5 : Int32) (v142_4 : Int32) : MS := if v142_4 = (32 : Int32) then (f_MO_multiplies_159 σ a1 a2 a3 v142_5 a2) else (f_MO_multiplies_159 σ a1 a2 a3 v142_5 (a2 ^^^ (-1 : Int32)))
def f_MO_multiplies_c3 (z80 : MS) (a1 : Int32) (a2 : Int32) (a3 : Int32)  : MS := z80
def f_MO_multiplies_c2 (z122 : MS) (a1 : Int32) (a2 : Int32) (a3 : Int32)  : MS := z122
def f_MO_multiplies_c1 (z171 : MS × Int32) (a1 : Int32) (a2 : Int32) (a3 : Int32)  : MS := z171.1
def f_MO_multiplies_51 (σ : MS) (a1 : Int32) (a2 : Int32) (a3 : Int32) (v51_6 : Int64) (v51_5 : Int32) (v51_4 : Int32) (w51_0 : Bool) : MS := if (2 : Int32) ≤ v51_4 then (if v51_4 = (4 : Int32) then (f_MO_multiplies_98 σ a1 a2 a3 ((f_MO_whole σ a2 w51_0) * (f_MO_whole σ a3 w51_0)) v51_6) else (if v51_4 = (5 : Int32) then (f_MO_multiplies_98 σ a1 a2 a3 ((f_MO_whole σ a2 w51_0) * (f_MO_whole σ a3 w51_0)) v51_6) else (if v51_4 = (2 : Int32) then (f_MO_multiplies_c2 (f_MO_put σ v51_5 (a2 * a3)) a1 a2 a3 ) else (if v51_4 = (32 : Int32) then (f_MO_multiplies_142 σ a1 a2 a3 v51_5 v51_4) else (if v51_4 = (33 : Int32) then (f_MO_multiplies_142 σ a1 a2 a3 v51_5 v51_4) else (f_MO_multiplies_c1 (f_MO_raise σ (10 : Int32)) a1 a2 a3 )))))) else (f_MO_multiplies_c3 (f_MO_setBoth σ (v51_6 + ((f_MO_whole σ a2 w51_0) * (f_MO_whole σ a3 w51_0)))) a1 a2 a3 )
def f_MO_multiplies_46 (σ : MS) (a1 : Int32) (a2 : Int32) (a3 : Int32) (v46_6 : Int64) (v46_5 : Int32) (v46_4 : Int32) : MS := f_MO_multiplies_51 σ a1 a2 a3 v46_6 v46_5 v46_4 true
def f_MO_multiplies (σ : MS) (a1 : Int32) (a2 : Int32) (a3 : Int32) : MS := if (a1 &&& (63 : Int32)) = 0 then (f_MO_multiplies_46 σ a1 a2 a3 (((Int32.toInt64 (m_hi σ)) <<< (Int32.toInt64 (32 : Int32) &&& 63)) ||| ((Int32.toInt64 (m_lo σ)) &&& (4294967295 : Int64))) ((a1 >>> ((11 : Int32) &&& 31)) &&& (31 : Int32)) (a1 &&& (63 : Int32))) else (if (a1 &&& (63 : Int32)) = (4 : Int32) then (f_MO_multiplies_46 σ a1 a2 a3 (((Int32.toInt64 (m_hi σ)) <<< (Int32.toInt64 (32 : Int32) &&& 63)) ||| ((Int32.toInt64 (m_lo σ)) &&& (4294967295 : Int64))) ((a1 >>> ((11 : Int32) &&& 31)) &&& (31 : Int32)) (a1 &&& (63 : Int32))) else (f_MO_multiplies_51 σ a1 a2 a3 (((Int32.toInt64 (m_hi σ)) <<< (Int32.toInt64 (32 : Int32) &&& 63)) ||| ((Int32.toInt64 (m_lo σ)) &&& (4294967295 : Int64))) ((a1 >>> ((11 : Int32) &&& 31)) &&& (31 : Int32)) (a1 &&& (63 : Int32)) false))
def P_MO_multiplies_c5 (z104 : MS) (a1 : Int32) (a2 : Int32) (a3 : Int32)  : Prop := True
def P_MO_multiplies_98 (σ : MS) (a1 : Int32) (a2 : Int32) (a3 : Int32) (v98_9 : Int64) (v98_6 : Int64) : Prop := P_MO_multiplies_c5 (f_MO_setBoth σ (v98_6 - v98_9)) a1 a2 a3 
def P_MO_multiplies_c4 (z162 : MS) (a1 : Int32) (a2 : Int32) (a3 : Int32)  : Prop := True
def P_MO_multiplies_159 (σ : MS) (a1 : Int32) (a2 : Int32) (a3 : Int32) (w159_1 : Int32) (w159_2 : Int32) : Prop := vp_in w159_1 32 ∧ P_MO_multiplies_c4 (f_MO_put σ w159_1 (f_MO_zeros σ w159_2)) a1 a2 a3 
def P_MO_multiplies_142 (σ : MS) (a1 : Int32) (a2 : Int32) (a3 : Int32) (v142_5 : Int32) (v142_4 : Int32) : Prop := ((v142_4 = (32 : Int32)) → (P_MO_multiplies_159 σ a1 a2 a3 v142_5 a2)) ∧ (¬ (v142_4 = (32 : Int32)) → (P_MO_multiplies_159 σ a1 a2 a3 v142_5 (a2 ^^^ (-1 : Int32))))
def P_MO_multiplies_c3 (z80 : MS) (a1 : Int32) (a2 : Int32) (a3 : Int32)  : Prop := True
def P_MO_multiplies_c2 (z122 : MS) (a1 : Int32) (a2 : Int32) (a3 : Int32)  : Prop := True
def P_MO_multiplies_c1 (z171 : MS × Int32) (a1 : Int32) (a2 : Int32) (a3 : Int32)  : Prop := True
def P_MO_multiplies_51 (σ : MS) (a1 : Int32) (a2 : Int32) (a3 : Int32) (v51_6 : Int64) (v51_5 : Int32) (v51_4 : Int32) (w51_0 : Bool) : Prop := (((2 : Int32) ≤ v51_4) → (((v51_4 = (4 : Int32)) → (P_MO_multiplies_98 σ a1 a2 a3 ((f_MO_whole σ a2 w51_0) * (f_MO_whole σ a3 w51_0)) v51_6)) ∧ (¬ (v51_4 = (4 : Int32)) → (((v51_4 = (5 : Int32)) → (P_MO_multiplies_98 σ a1 a2 a3 ((f_MO_whole σ a2 w51_0) * (f_MO_whole σ a3 w51_0)) v51_6)) ∧ (¬ (v51_4 = (5 : Int32)) → (((v51_4 = (2 : Int32)) → (vp_in v51_5 32 ∧ P_MO_multiplies_c2 (f_MO_put σ v51_5 (a2 * a3)) a1 a2 a3 )) ∧ (¬ (v51_4 = (2 : Int32)) → (((v51_4 = (32 : Int32)) → (P_MO_multiplies_142 σ a1 a2 a3 v51_5 v51_4)) ∧ (¬ (v51_4 = (32 : Int32)) → (((v51_4 = (33 : Int32)) → (P_MO_multiplies_142 σ a1 a2 a3 v51_5 v51_4)) ∧ (¬ (v51_4 = (33 : Int32)) → (P_MO_multiplies_c1 (f_MO_raise σ (10 : Int32)) a1 a2 a3 )))))))))))) ∧ (¬ ((2 : Int32) ≤ v51_4) → (P_MO_multiplies_c3 (f_MO_setBoth σ (v51_6 + ((f_MO_whole σ a2 w51_0) * (f_MO_whole σ a3 w51_0)))) a1 a2 a3 ))
def P_MO_multiplies_46 (σ : MS) (a1 : Int32) (a2 : Int32) (a3 : Int32) (v46_6 : Int64) (v46_5 : Int32) (v46_4 : Int32) : Prop := P_MO_multiplies_51 σ a1 a2 a3 v46_6 v46_5 v46_4 true
def P_MO_multiplies (σ : MS) (a1 : Int32) (a2 : Int32) (a3 : Int32) : Prop := (((a1 &&& (63 : Int32)) = 0) → (P_MO_multiplies_46 σ a1 a2 a3 (((Int32.toInt64 (m_hi σ)) <<< (Int32.toInt64 (32 : Int32) &&& 63)) ||| ((Int32.toInt64 (m_lo σ)) &&& (4294967295 : Int64))) ((a1 >>> ((11 : Int32) &&& 31)) &&& (31 : Int32)) (a1 &&& (63 : Int32)))) ∧ (¬ ((a1 &&& (63 : Int32)) = 0) → ((((a1 &&& (63 : Int32)) = (4 : Int32)) → (P_MO_multiplies_46 σ a1 a2 a3 (((Int32.toInt64 (m_hi σ)) <<< (Int32.toInt64 (32 : Int32) &&& 63)) ||| ((Int32.toInt64 (m_lo σ)) &&& (4294967295 : Int64))) ((a1 >>> ((11 : Int32) &&& 31)) &&& (31 : Int32)) (a1 &&& (63 : Int32)))) ∧ (¬ ((a1 &&& (63 : Int32)) = (4 : Int32)) → (P_MO_multiplies_51 σ a1 a2 a3 (((Int32.toInt64 (m_hi σ)) <<< (Int32.toInt64 (32 : Int32) &&& 63)) ||| ((Int32.toInt64 (m_lo σ)) &&& (4294967295 : Int64))) ((a1 >>> ((11 : Int32) &&& 31)) &&& (31 : Int32)) (a1 &&& (63 : Int32)) false))))
theorem d_MO_multiplies_0 : decode b_MO_multiplies 0 = .ok (.iload_n 1, 1) := by decide +kernel
theorem d_MO_multiplies_1 : decode b_MO_multiplies 1 = .ok (.bipush 63, 2) := by decide +kernel
theorem d_MO_multiplies_3 : decode b_MO_multiplies 3 = .ok (.iand, 1) := by decide +kernel
theorem d_MO_multiplies_4 : decode b_MO_multiplies 4 = .ok (.istore 4, 2) := by decide +kernel
theorem d_MO_multiplies_6 : decode b_MO_multiplies 6 = .ok (.iload_n 1, 1) := by decide +kernel
theorem d_MO_multiplies_7 : decode b_MO_multiplies 7 = .ok (.bipush 11, 2) := by decide +kernel
theorem d_MO_multiplies_9 : decode b_MO_multiplies 9 = .ok (.ishr, 1) := by decide +kernel
theorem d_MO_multiplies_10 : decode b_MO_multiplies 10 = .ok (.bipush 31, 2) := by decide +kernel
theorem d_MO_multiplies_12 : decode b_MO_multiplies 12 = .ok (.iand, 1) := by decide +kernel
theorem d_MO_multiplies_13 : decode b_MO_multiplies 13 = .ok (.istore 5, 2) := by decide +kernel
theorem d_MO_multiplies_15 : decode b_MO_multiplies 15 = .ok (.aload_n 0, 1) := by decide +kernel
theorem d_MO_multiplies_16 : decode b_MO_multiplies 16 = .ok (.getfield 72, 3) := by decide +kernel
theorem d_MO_multiplies_19 : decode b_MO_multiplies 19 = .ok (.i2l, 1) := by decide +kernel
theorem d_MO_multiplies_20 : decode b_MO_multiplies 20 = .ok (.bipush 32, 2) := by decide +kernel
theorem d_MO_multiplies_22 : decode b_MO_multiplies 22 = .ok (.lshl, 1) := by decide +kernel
theorem d_MO_multiplies_23 : decode b_MO_multiplies 23 = .ok (.aload_n 0, 1) := by decide +kernel
theorem d_MO_multiplies_24 : decode b_MO_multiplies 24 = .ok (.getfield 75, 3) := by decide +kernel
theorem d_MO_multiplies_27 : decode b_MO_multiplies 27 = .ok (.i2l, 1) := by decide +kernel
theorem d_MO_multiplies_28 : decode b_MO_multiplies 28 = .ok (.ldc2_w 218, 3) := by decide +kernel
theorem d_MO_multiplies_31 : decode b_MO_multiplies 31 = .ok (.land, 1) := by decide +kernel
theorem d_MO_multiplies_32 : decode b_MO_multiplies 32 = .ok (.lor, 1) := by decide +kernel
theorem d_MO_multiplies_33 : decode b_MO_multiplies 33 = .ok (.lstore 6, 2) := by decide +kernel
theorem d_MO_multiplies_35 : decode b_MO_multiplies 35 = .ok (.iload 4, 2) := by decide +kernel
theorem d_MO_multiplies_37 : decode b_MO_multiplies 37 = .ok (.ifCond .eq 9, 3) := by decide +kernel
theorem d_MO_multiplies_40 : decode b_MO_multiplies 40 = .ok (.iload 4, 2) := by decide +kernel
theorem d_MO_multiplies_42 : decode b_MO_multiplies 42 = .ok (.iconst 4, 1) := by decide +kernel
theorem d_MO_multiplies_43 : decode b_MO_multiplies 43 = .ok (.if_icmp .ne 7, 3) := by decide +kernel
theorem d_MO_multiplies_46 : decode b_MO_multiplies 46 = .ok (.iconst 1, 1) := by decide +kernel
theorem d_MO_multiplies_47 : decode b_MO_multiplies 47 = .ok (.goto 4, 3) := by decide +kernel
theorem d_MO_multiplies_50 : decode b_MO_multiplies 50 = .ok (.iconst 0, 1) := by decide +kernel
theorem d_MO_multiplies_51 : decode b_MO_multiplies 51 = .ok (.istore 8, 2) := by decide +kernel
theorem d_MO_multiplies_53 : decode b_MO_multiplies 53 = .ok (.iload_n 2, 1) := by decide +kernel
theorem d_MO_multiplies_54 : decode b_MO_multiplies 54 = .ok (.iload 8, 2) := by decide +kernel
theorem d_MO_multiplies_56 : decode b_MO_multiplies 56 = .ok (.invokestatic 220, 3) := by decide +kernel
theorem d_MO_multiplies_59 : decode b_MO_multiplies 59 = .ok (.iload_n 3, 1) := by decide +kernel
theorem d_MO_multiplies_60 : decode b_MO_multiplies 60 = .ok (.iload 8, 2) := by decide +kernel
theorem d_MO_multiplies_62 : decode b_MO_multiplies 62 = .ok (.invokestatic 220, 3) := by decide +kernel
theorem d_MO_multiplies_65 : decode b_MO_multiplies 65 = .ok (.lmul, 1) := by decide +kernel
theorem d_MO_multiplies_66 : decode b_MO_multiplies 66 = .ok (.lstore 9, 2) := by decide +kernel
theorem d_MO_multiplies_68 : decode b_MO_multiplies 68 = .ok (.iload 4, 2) := by decide +kernel
theorem d_MO_multiplies_70 : decode b_MO_multiplies 70 = .ok (.iconst 2, 1) := by decide +kernel
theorem d_MO_multiplies_71 : decode b_MO_multiplies 71 = .ok (.if_icmp .ge 15, 3) := by decide +kernel
theorem d_MO_multiplies_74 : decode b_MO_multiplies 74 = .ok (.aload_n 0, 1) := by decide +kernel
theorem d_MO_multiplies_75 : decode b_MO_multiplies 75 = .ok (.lload 6, 2) := by decide +kernel
theorem d_MO_multiplies_77 : decode b_MO_multiplies 77 = .ok (.lload 9, 2) := by decide +kernel
theorem d_MO_multiplies_79 : decode b_MO_multiplies 79 = .ok (.ladd, 1) := by decide +kernel
theorem d_MO_multiplies_80 : decode b_MO_multiplies 80 = .ok (.invokevirtual 224, 3) := by decide +kernel
theorem d_MO_multiplies_83 : decode b_MO_multiplies 83 = .ok (.goto 92, 3) := by decide +kernel
theorem d_MO_multiplies_86 : decode b_MO_multiplies 86 = .ok (.iload 4, 2) := by decide +kernel
theorem d_MO_multiplies_88 : decode b_MO_multiplies 88 = .ok (.iconst 4, 1) := by decide +kernel
theorem d_MO_multiplies_89 : decode b_MO_multiplies 89 = .ok (.if_icmp .eq 9, 3) := by decide +kernel
theorem d_MO_multiplies_92 : decode b_MO_multiplies 92 = .ok (.iload 4, 2) := by decide +kernel
theorem d_MO_multiplies_94 : decode b_MO_multiplies 94 = .ok (.iconst 5, 1) := by decide +kernel
theorem d_MO_multiplies_95 : decode b_MO_multiplies 95 = .ok (.if_icmp .ne 15, 3) := by decide +kernel
theorem d_MO_multiplies_98 : decode b_MO_multiplies 98 = .ok (.aload_n 0, 1) := by decide +kernel
theorem d_MO_multiplies_99 : decode b_MO_multiplies 99 = .ok (.lload 6, 2) := by decide +kernel
theorem d_MO_multiplies_101 : decode b_MO_multiplies 101 = .ok (.lload 9, 2) := by decide +kernel
theorem d_MO_multiplies_103 : decode b_MO_multiplies 103 = .ok (.lsub, 1) := by decide +kernel
theorem d_MO_multiplies_104 : decode b_MO_multiplies 104 = .ok (.invokevirtual 224, 3) := by decide +kernel
theorem d_MO_multiplies_107 : decode b_MO_multiplies 107 = .ok (.goto 68, 3) := by decide +kernel
theorem d_MO_multiplies_110 : decode b_MO_multiplies 110 = .ok (.iload 4, 2) := by decide +kernel
theorem d_MO_multiplies_112 : decode b_MO_multiplies 112 = .ok (.iconst 2, 1) := by decide +kernel
theorem d_MO_multiplies_113 : decode b_MO_multiplies 113 = .ok (.if_icmp .ne 15, 3) := by decide +kernel
theorem d_MO_multiplies_116 : decode b_MO_multiplies 116 = .ok (.aload_n 0, 1) := by decide +kernel
theorem d_MO_multiplies_117 : decode b_MO_multiplies 117 = .ok (.iload 5, 2) := by decide +kernel
theorem d_MO_multiplies_119 : decode b_MO_multiplies 119 = .ok (.iload_n 2, 1) := by decide +kernel
theorem d_MO_multiplies_120 : decode b_MO_multiplies 120 = .ok (.iload_n 3, 1) := by decide +kernel
theorem d_MO_multiplies_121 : decode b_MO_multiplies 121 = .ok (.imul, 1) := by decide +kernel
theorem d_MO_multiplies_122 : decode b_MO_multiplies 122 = .ok (.invokevirtual 78, 3) := by decide +kernel
theorem d_MO_multiplies_125 : decode b_MO_multiplies 125 = .ok (.goto 50, 3) := by decide +kernel
theorem d_MO_multiplies_128 : decode b_MO_multiplies 128 = .ok (.iload 4, 2) := by decide +kernel
theorem d_MO_multiplies_130 : decode b_MO_multiplies 130 = .ok (.bipush 32, 2) := by decide +kernel
theorem d_MO_multiplies_132 : decode b_MO_multiplies 132 = .ok (.if_icmp .eq 10, 3) := by decide +kernel
theorem d_MO_multiplies_135 : decode b_MO_multiplies 135 = .ok (.iload 4, 2) := by decide +kernel
theorem d_MO_multiplies_137 : decode b_MO_multiplies 137 = .ok (.bipush 33, 2) := by decide +kernel
theorem d_MO_multiplies_139 : decode b_MO_multiplies 139 = .ok (.if_icmp .ne 29, 3) := by decide +kernel
theorem d_MO_multiplies_142 : decode b_MO_multiplies 142 = .ok (.aload_n 0, 1) := by decide +kernel
theorem d_MO_multiplies_143 : decode b_MO_multiplies 143 = .ok (.iload 5, 2) := by decide +kernel
theorem d_MO_multiplies_145 : decode b_MO_multiplies 145 = .ok (.iload 4, 2) := by decide +kernel
theorem d_MO_multiplies_147 : decode b_MO_multiplies 147 = .ok (.bipush 32, 2) := by decide +kernel
theorem d_MO_multiplies_149 : decode b_MO_multiplies 149 = .ok (.if_icmp .ne 7, 3) := by decide +kernel
theorem d_MO_multiplies_152 : decode b_MO_multiplies 152 = .ok (.iload_n 2, 1) := by decide +kernel
theorem d_MO_multiplies_153 : decode b_MO_multiplies 153 = .ok (.goto 6, 3) := by decide +kernel
theorem d_MO_multiplies_156 : decode b_MO_multiplies 156 = .ok (.iload_n 2, 1) := by decide +kernel
theorem d_MO_multiplies_157 : decode b_MO_multiplies 157 = .ok (.iconst (-1), 1) := by decide +kernel
theorem d_MO_multiplies_158 : decode b_MO_multiplies 158 = .ok (.ixor, 1) := by decide +kernel
theorem d_MO_multiplies_159 : decode b_MO_multiplies 159 = .ok (.invokestatic 233, 3) := by decide +kernel
theorem d_MO_multiplies_162 : decode b_MO_multiplies 162 = .ok (.invokevirtual 78, 3) := by decide +kernel
theorem d_MO_multiplies_165 : decode b_MO_multiplies 165 = .ok (.goto 10, 3) := by decide +kernel
theorem d_MO_multiplies_168 : decode b_MO_multiplies 168 = .ok (.aload_n 0, 1) := by decide +kernel
theorem d_MO_multiplies_169 : decode b_MO_multiplies 169 = .ok (.bipush 10, 2) := by decide +kernel
theorem d_MO_multiplies_171 : decode b_MO_multiplies 171 = .ok (.invokevirtual 196, 3) := by decide +kernel
theorem d_MO_multiplies_174 : decode b_MO_multiplies 174 = .ok (.pop, 1) := by decide +kernel
theorem d_MO_multiplies_175 : decode b_MO_multiplies 175 = .ok (.return_, 1) := by decide +kernel
set_option maxHeartbeats 4000000 in
set_option maxRecDepth 100000 in
theorem c_MO_multiplies (l : Launch) (E : Ev) (ad : Nat → Nat) (σ : MS) (a1 : Int32) (a2 : Int32) (a3 : Int32) (hp : P_MO_multiplies σ a1 a2 a3) : rC xCl l E (mW E ad) y_MO_multiplies b_MO_multiplies 11 (Option.none : Option Jvm.ClassFile.FieldType) (rmo 1 22) [.ref (ad 0), .int a1, .int a2, .int a3] σ (zV (f_MO_multiplies σ a1 a2 a3)) := by
  refine rC.of (by decide) (Nat.le_of_ble_eq_true rfl) ?_
  intro p e s m below meth c A ls hc w hl
  generalize e0 : zV (f_MO_multiplies σ a1 a2 a3) = Z
  have hc : Cx xCl E A p s m ([.ref (ad 0), .int a1, .int a2, .int a3] : List Value).toArray meth c b_MO_multiplies 11 (Option.none : Option Jvm.ClassFile.FieldType) "PageMachineModel" := hc
  have hx := hc.1
  have hb := hc.2.1
  have ho := hc.2.2.2.2.2.1
  have hT := hc.2.2.2.2.2.2.1
  have hl : lv_has ls 11 [(0, .ref (ad 0)), (1, .int a1), (2, .int a2), (3, .int a3)] := hl
  have J98 : ∀ (v98_9 : Int64) (v98_6 : Int64) (H : Heap) (locs : List Loc) (ls : Array Slot), Wd xCl E A s.heap H locs (mW E ad σ) → lv_has ls 11 [(9, .long v98_9), (6, .long v98_6), (0, .ref (ad 0))] → zV (f_MO_multiplies_98 σ a1 a2 a3 v98_9 v98_6) = Z → P_MO_multiplies_98 σ a1 a2 a3 v98_9 v98_6 → W p l e (rmo 1 22) s m ([.ref (ad 0), .int a1, .int a2, .int a3] : List Value).toArray below meth c H locs 0 0 (MQ below (rQ xCl (mW E ad) E A Z) ([.ref (ad 0), .int a1, .int a2, .int a3] : List Value).toArray s 0 0 A) (F0 m 98 ls []) := by
    intro v98_9 v98_6 H locs ls w hl e98 hp
    unfold P_MO_multiplies_98 at hp
    refine lv_aload_n hx hb d_MO_multiplies_98 rfl (lv_at hl 2 rfl) ?_
    refine lv_lload hx hb d_MO_multiplies_99 (lv_at hl 1 rfl) ?_
    refine lv_lload hx hb d_MO_multiplies_101 (lv_at hl 0 rfl) ?_
    refine lv_lsub hx hb d_MO_multiplies_103 ?_
    refine cVV (rest := []) hc w (c_MO_setBoth l E ad σ (v98_6 - v98_9)) kv_MO_setBoth mw_1103 0 rfl rfl ⟨Nat.le_of_ble_eq_true rfl, Nat.le_of_ble_eq_true rfl⟩ hl.1 rfl (Nat.le_of_ble_eq_true rfl) ⟨Nat.zero_le _, Nat.zero_le _⟩ d_MO_multiplies_104 (fun z104 H locs hs104 w => ?_)
    rw [hs104] at hp
    unfold P_MO_multiplies_c5 at hp
    have e_c5 : zV (f_MO_multiplies_c5 z104 a1 a2 a3 ) = Z := by rw [← e98, f_MO_multiplies_98, hs104]
    refine lv_goto (tgt := 175) hx hb d_MO_multiplies_107 (by decide) ?_
    exact rt_v hc w d_MO_multiplies_175 (by rw [← e_c5, f_MO_multiplies_c5] <;> rfl)
  have J159 : ∀ (w159_1 : Int32) (w159_2 : Int32) (H : Heap) (locs : List Loc) (ls : Array Slot), Wd xCl E A s.heap H locs (mW E ad σ) → lv_has ls 11 [] → zV (f_MO_multiplies_159 σ a1 a2 a3 w159_1 w159_2) = Z → P_MO_multiplies_159 σ a1 a2 a3 w159_1 w159_2 → W p l e (rmo 1 22) s m ([.ref (ad 0), .int a1, .int a2, .int a3] : List Value).toArray below meth c H locs 0 0 (MQ below (rQ xCl (mW E ad) E A Z) ([.ref (ad 0), .int a1, .int a2, .int a3] : List Value).toArray s 0 0 A) (F0 m 159 ls [.int w159_2, .int w159_1, .ref (ad 0)]) := by
    intro w159_1 w159_2 H locs ls w hl e159 hp
    unfold P_MO_multiplies_159 at hp
    refine rSI (rest := [.int w159_1, .ref (ad 0)]) hc w (c_MO_zeros l E ad σ w159_2) ks_MO_zeros mw_1148 ⟨Nat.le_of_ble_eq_true rfl, Nat.le_of_ble_eq_true rfl⟩ hl.1 rfl (Nat.le_of_ble_eq_true rfl) ⟨Nat.zero_le _, Nat.zero_le _⟩ d_MO_multiplies_159 (fun H locs w => ?_)
    obtain ⟨hb162, hp⟩ := hp
    refine cVV (rest := []) hc w (c_MO_put l E ad σ w159_1 (f_MO_zeros σ w159_2) hb162) kv_MO_put mw_1000 0 rfl rfl ⟨Nat.le_of_ble_eq_true rfl, Nat.le_of_ble_eq_true rfl⟩ hl.1 rfl (Nat.le_of_ble_eq_true rfl) ⟨Nat.zero_le _, Nat.zero_le _⟩ d_MO_multiplies_162 (fun z162 H locs hs162 w => ?_)
    rw [hs162] at hp
    unfold P_MO_multiplies_c4 at hp
    have e_c4 : zV (f_MO_multiplies_c4 z162 a1 a2 a3 ) = Z := by rw [← e159, f_MO_multiplies_159, hs162]
    refine lv_goto (tgt := 175) hx hb d_MO_multiplies_165 (by decide) ?_
    exact rt_v hc w d_MO_multiplies_175 (by rw [← e_c4, f_MO_multiplies_c4] <;> rfl)
  have J142 : ∀ (v142_5 : Int32) (v142_4 : Int32) (H : Heap) (locs : List Loc) (ls : Array Slot), Wd xCl E A s.heap H locs (mW E ad σ) → lv_has ls 11 [(5, .int v142_5), (4, .int v142_4), (0, .ref (ad 0)), (2, .int a2)] → zV (f_MO_multiplies_142 σ a1 a2 a3 v142_5 v142_4) = Z → P_MO_multiplies_142 σ a1 a2 a3 v142_5 v142_4 → W p l e (rmo 1 22) s m ([.ref (ad 0), .int a1, .int a2, .int a3] : List Value).toArray below meth c H locs 0 0 (MQ below (rQ xCl (mW E ad) E A Z) ([.ref (ad 0), .int a1, .int a2, .int a3] : List Value).toArray s 0 0 A) (F0 m 142 ls []) := by
    intro v142_5 v142_4 H locs ls w hl e142 hp
    unfold P_MO_multiplies_142 at hp
    refine lv_aload_n hx hb d_MO_multiplies_142 rfl (lv_at hl 2 rfl) ?_
    refine lv_iload hx hb d_MO_multiplies_143 (lv_at hl 0 rfl) ?_
    refine lv_iload hx hb d_MO_multiplies_145 (lv_at hl 1 rfl) ?_
    refine lv_bipush (v := 32) hx hb d_MO_multiplies_147 (by decide) ?_
    refine lv_icmp_ne (tgt := 156) hx hb d_MO_multiplies_149 (by decide) (fun q149 => ?_) (fun q149 => ?_)
    · have hp := hp.2 q149
      refine lv_iload_n hx hb d_MO_multiplies_156 rfl (lv_at hl 3 rfl) ?_
      refine lv_iconst (v := -1) hx hb d_MO_multiplies_157 (by decide) ?_
      refine lv_ixor hx hb d_MO_multiplies_158 ?_
      exact J159 v142_5 (a2 ^^^ (-1 : Int32)) _ _ _ w (lv_sub hl [] rfl) (by rw [← e142, f_MO_multiplies_142, if_neg q149]) hp
    · have hp := hp.1 q149
      refine lv_iload_n hx hb d_MO_multiplies_152 rfl (lv_at hl 3 rfl) ?_
      refine lv_goto (tgt := 159) hx hb d_MO_multiplies_153 (by decide) ?_
      exact J159 v142_5 a2 _ _ _ w (lv_sub hl [] rfl) (by rw [← e142, f_MO_multiplies_142, if_pos q149]) hp
  have J51 : ∀ (v51_6 : Int64) (v51_5 : Int32) (v51_4 : Int32) (w51_0 : Bool) (H : Heap) (locs : List Loc) (ls : Array Slot), Wd xCl E A s.heap H locs (mW E ad σ) → lv_has ls 11 [(6, .long v51_6), (5, .int v51_5), (4, .int v51_4), (0, .ref (ad 0)), (2, .int a2), (3, .int a3)] → zV (f_MO_multiplies_51 σ a1 a2 a3 v51_6 v51_5 v51_4 w51_0) = Z → P_MO_multiplies_51 σ a1 a2 a3 v51_6 v51_5 v51_4 w51_0 → W p l e (rmo 1 22) s m ([.ref (ad 0), .int a1, .int a2, .int a3] : List Value).toArray below meth c H locs 0 0 (MQ below (rQ xCl (mW E ad) E A Z) ([.ref (ad 0), .int a1, .int a2, .int a3] : List Value).toArray s 0 0 A) (F0 m 51 ls [.int (zb w51_0)]) := by
    intro v51_6 v51_5 v51_4 w51_0 H locs ls w hl e51 hp
    unfold P_MO_multiplies_51 at hp
    refine lv_istore (lv' := [(8, .int (zb w51_0)), (6, .long v51_6), (5, .int v51_5), (4, .int v51_4), (0, .ref (ad 0)), (2, .int a2), (3, .int a3)]) hx hb d_MO_multiplies_51 hl (by decide) rfl (fun ls hl => ?_)
    refine lv_iload_n hx hb d_MO_multiplies_53 rfl (lv_at hl 5 rfl) ?_
    refine lv_iload hx hb d_MO_multiplies_54 (lv_at hl 0 rfl) ?_
    refine rSL (rest := []) hc w (c_MO_whole l E ad σ a2 w51_0) ks_MO_whole mw_1099 ⟨Nat.le_of_ble_eq_true rfl, Nat.le_of_ble_eq_true rfl⟩ hl.1 rfl (Nat.le_of_ble_eq_true rfl) ⟨Nat.zero_le _, Nat.zero_le _⟩ d_MO_multiplies_56 (fun H locs w => ?_)
    refine lv_iload_n hx hb d_MO_multiplies_59 rfl (lv_at hl 6 rfl) ?_
    refine lv_iload hx hb d_MO_multiplies_60 (lv_at hl 0 rfl) ?_
    refine rSL (rest := [.long (f_MO_whole σ a2 w51_0)]) hc w (c_MO_whole l E ad σ a3 w51_0) ks_MO_whole mw_1099 ⟨Nat.le_of_ble_eq_true rfl, Nat.le_of_ble_eq_true rfl⟩ hl.1 rfl (Nat.le_of_ble_eq_true rfl) ⟨Nat.zero_le _, Nat.zero_le _⟩ d_MO_multiplies_62 (fun H locs w => ?_)
    refine lv_lmul hx hb d_MO_multiplies_65 ?_
    refine lv_lstore (lv' := [(9, .long ((f_MO_whole σ a2 w51_0) * (f_MO_whole σ a3 w51_0))), (8, .int (zb w51_0)), (6, .long v51_6), (5, .int v51_5), (4, .int v51_4), (0, .ref (ad 0)), (2, .int a2), (3, .int a3)]) hx hb d_MO_multiplies_66 hl (by decide) rfl (fun ls hl => ?_)
    refine lv_iload hx hb d_MO_multiplies_68 (lv_at hl 4 rfl) ?_
    refine lv_iconst (v := 2) hx hb d_MO_multiplies_70 (by decide) ?_
    refine lv_icmp_ge (tgt := 86) hx hb d_MO_multiplies_71 (by decide) (fun q71 => ?_) (fun q71 => ?_)
    · have hp := hp.1 q71
      refine lv_iload hx hb d_MO_multiplies_86 (lv_at hl 4 rfl) ?_
      refine lv_iconst (v := 4) hx hb d_MO_multiplies_88 (by decide) ?_
      refine lv_icmp_eq (tgt := 98) hx hb d_MO_multiplies_89 (by decide) (fun q89 => ?_) (fun q89 => ?_)
      · have hp := hp.1 q89
        exact J98 ((f_MO_whole σ a2 w51_0) * (f_MO_whole σ a3 w51_0)) v51_6 _ _ _ w (lv_sub hl [0, 2, 5] rfl) (by rw [← e51, f_MO_multiplies_51, if_pos q71, if_pos q89]) hp
      · have hp := hp.2 q89
        refine lv_iload hx hb d_MO_multiplies_92 (lv_at hl 4 rfl) ?_
        refine lv_iconst (v := 5) hx hb d_MO_multiplies_94 (by decide) ?_
        refine lv_icmp_ne (tgt := 110) hx hb d_MO_multiplies_95 (by decide) (fun q95 => ?_) (fun q95 => ?_)
        · have hp := hp.2 q95
          refine lv_iload hx hb d_MO_multiplies_110 (lv_at hl 4 rfl) ?_
          refine lv_iconst (v := 2) hx hb d_MO_multiplies_112 (by decide) ?_
          refine lv_icmp_ne (tgt := 128) hx hb d_MO_multiplies_113 (by decide) (fun q113 => ?_) (fun q113 => ?_)
          · have hp := hp.2 q113
            refine lv_iload hx hb d_MO_multiplies_128 (lv_at hl 4 rfl) ?_
            refine lv_bipush (v := 32) hx hb d_MO_multiplies_130 (by decide) ?_
            refine lv_icmp_eq (tgt := 142) hx hb d_MO_multiplies_132 (by decide) (fun q132 => ?_) (fun q132 => ?_)
            · have hp := hp.1 q132
              exact J142 v51_5 v51_4 _ _ _ w (lv_sub hl [3, 4, 5, 6] rfl) (by rw [← e51, f_MO_multiplies_51, if_pos q71, if_neg q89, if_neg q95, if_neg q113, if_pos q132]) hp
            · have hp := hp.2 q132
              refine lv_iload hx hb d_MO_multiplies_135 (lv_at hl 4 rfl) ?_
              refine lv_bipush (v := 33) hx hb d_MO_multiplies_137 (by decide) ?_
              refine lv_icmp_ne (tgt := 168) hx hb d_MO_multiplies_139 (by decide) (fun q139 => ?_) (fun q139 => ?_)
              · have hp := hp.2 q139
                refine lv_aload_n hx hb d_MO_multiplies_168 rfl (lv_at hl 5 rfl) ?_
                refine lv_bipush (v := 10) hx hb d_MO_multiplies_169 (by decide) ?_
                refine cVI (rest := []) hc w (c_MO_raise l E ad σ (10 : Int32)) kv_MO_raise mw_1079 0 rfl rfl ⟨Nat.le_of_ble_eq_true rfl, Nat.le_of_ble_eq_true rfl⟩ hl.1 rfl (Nat.le_of_ble_eq_true rfl) ⟨Nat.zero_le _, Nat.zero_le _⟩ d_MO_multiplies_171 (fun z171 H locs hs171 w => ?_)
                rw [hs171] at hp
                unfold P_MO_multiplies_c1 at hp
                have e_c1 : zV (f_MO_multiplies_c1 z171 a1 a2 a3 ) = Z := by rw [← e51, f_MO_multiplies_51, if_pos q71, if_neg q89, if_neg q95, if_neg q113, if_neg q132, if_neg q139, hs171]
                refine lv_pop hx hb d_MO_multiplies_174 rfl ?_
                exact rt_v hc w d_MO_multiplies_175 (by rw [← e_c1, f_MO_multiplies_c1] <;> rfl)
              · have hp := hp.1 q139
                exact J142 v51_5 v51_4 _ _ _ w (lv_sub hl [3, 4, 5, 6] rfl) (by rw [← e51, f_MO_multiplies_51, if_pos q71, if_neg q89, if_neg q95, if_neg q113, if_neg q132, if_pos q139]) hp
          · have hp := hp.1 q113
            refine lv_aload_n hx hb d_MO_multiplies_116 rfl (lv_at hl 5 rfl) ?_
            refine lv_iload hx hb d_MO_multiplies_117 (lv_at hl 3 rfl) ?_
            refine lv_iload_n hx hb d_MO_multiplies_119 rfl (lv_at hl 6 rfl) ?_
            refine lv_iload_n hx hb d_MO_multiplies_120 rfl (lv_at hl 7 rfl) ?_
            refine lv_imul hx hb d_MO_multiplies_121 ?_
            obtain ⟨hb122, hp⟩ := hp
            refine cVV (rest := []) hc w (c_MO_put l E ad σ v51_5 (a2 * a3) hb122) kv_MO_put mw_1000 0 rfl rfl ⟨Nat.le_of_ble_eq_true rfl, Nat.le_of_ble_eq_true rfl⟩ hl.1 rfl (Nat.le_of_ble_eq_true rfl) ⟨Nat.zero_le _, Nat.zero_le _⟩ d_MO_multiplies_122 (fun z122 H locs hs122 w => ?_)
            rw [hs122] at hp
            unfold P_MO_multiplies_c2 at hp
            have e_c2 : zV (f_MO_multiplies_c2 z122 a1 a2 a3 ) = Z := by rw [← e51, f_MO_multiplies_51, if_pos q71, if_neg q89, if_neg q95, if_pos q113, hs122]
            refine lv_goto (tgt := 175) hx hb d_MO_multiplies_125 (by decide) ?_
            exact rt_v hc w d_MO_multiplies_175 (by rw [← e_c2, f_MO_multiplies_c2] <;> rfl)
        · have hp := hp.1 q95
          exact J98 ((f_MO_whole σ a2 w51_0) * (f_MO_whole σ a3 w51_0)) v51_6 _ _ _ w (lv_sub hl [0, 2, 5] rfl) (by rw [← e51, f_MO_multiplies_51, if_pos q71, if_neg q89, if_pos q95]) hp
    · have hp := hp.2 q71
      refine lv_aload_n hx hb d_MO_multiplies_74 rfl (lv_at hl 5 rfl) ?_
      refine lv_lload hx hb d_MO_multiplies_75 (lv_at hl 2 rfl) ?_
      refine lv_lload hx hb d_MO_multiplies_77 (lv_at hl 0 rfl) ?_
      refine lv_ladd hx hb d_MO_multiplies_79 ?_
      refine cVV (rest := []) hc w (c_MO_setBoth l E ad σ (v51_6 + ((f_MO_whole σ a2 w51_0) * (f_MO_whole σ a3 w51_0)))) kv_MO_setBoth mw_1103 0 rfl rfl ⟨Nat.le_of_ble_eq_true rfl, Nat.le_of_ble_eq_true rfl⟩ hl.1 rfl (Nat.le_of_ble_eq_true rfl) ⟨Nat.zero_le _, Nat.zero_le _⟩ d_MO_multiplies_80 (fun z80 H locs hs80 w => ?_)
      rw [hs80] at hp
      unfold P_MO_multiplies_c3 at hp
      have e_c3 : zV (f_MO_multiplies_c3 z80 a1 a2 a3 ) = Z := by rw [← e51, f_MO_multiplies_51, if_neg q71, hs80]
      refine lv_goto (tgt := 175) hx hb d_MO_multiplies_83 (by decide) ?_
      exact rt_v hc w d_MO_multiplies_175 (by rw [← e_c3, f_MO_multiplies_c3] <;> rfl)
  have J46 : ∀ (v46_6 : Int64) (v46_5 : Int32) (v46_4 : Int32) (H : Heap) (locs : List Loc) (ls : Array Slot), Wd xCl E A s.heap H locs (mW E ad σ) → lv_has ls 11 [(6, .long v46_6), (5, .int v46_5), (4, .int v46_4), (0, .ref (ad 0)), (2, .int a2), (3, .int a3)] → zV (f_MO_multiplies_46 σ a1 a2 a3 v46_6 v46_5 v46_4) = Z → P_MO_multiplies_46 σ a1 a2 a3 v46_6 v46_5 v46_4 → W p l e (rmo 1 22) s m ([.ref (ad 0), .int a1, .int a2, .int a3] : List Value).toArray below meth c H locs 0 0 (MQ below (rQ xCl (mW E ad) E A Z) ([.ref (ad 0), .int a1, .int a2, .int a3] : List Value).toArray s 0 0 A) (F0 m 46 ls []) := by
    intro v46_6 v46_5 v46_4 H locs ls w hl e46 hp
    unfold P_MO_multiplies_46 at hp
    refine lv_iconst (v := 1) hx hb d_MO_multiplies_46 (by decide) ?_
    refine lv_goto (tgt := 51) hx hb d_MO_multiplies_47 (by decide) ?_
    exact J51 v46_6 v46_5 v46_4 true _ _ _ w (lv_sub hl [0, 1, 2, 3, 4, 5] rfl) (by rw [← e46, f_MO_multiplies_46]) hp
  unfold P_MO_multiplies at hp
  refine lv_iload_n hx hb d_MO_multiplies_0 rfl (lv_at hl 1 rfl) ?_
  refine lv_bipush (v := 63) hx hb d_MO_multiplies_1 (by decide) ?_
  refine lv_iand hx hb d_MO_multiplies_3 ?_
  refine lv_istore (lv' := [(4, .int (a1 &&& (63 : Int32))), (0, .ref (ad 0)), (1, .int a1), (2, .int a2), (3, .int a3)]) hx hb d_MO_multiplies_4 hl (by decide) rfl (fun ls hl => ?_)
  refine lv_iload_n hx hb d_MO_multiplies_6 rfl (lv_at hl 2 rfl) ?_
  refine lv_bipush (v := 11) hx hb d_MO_multiplies_7 (by decide) ?_
  refine lv_ishr hx hb d_MO_multiplies_9 ?_
  refine lv_bipush (v := 31) hx hb d_MO_multiplies_10 (by decide) ?_
  refine lv_iand hx hb d_MO_multiplies_12 ?_
  refine lv_istore (lv' := [(5, .int ((a1 >>> ((11 : Int32) &&& 31)) &&& (31 : Int32))), (4, .int (a1 &&& (63 : Int32))), (0, .ref (ad 0)), (1, .int a1), (2, .int a2), (3, .int a3)]) hx hb d_MO_multiplies_13 hl (by decide) rfl (fun ls hl => ?_)
  refine lv_aload_n hx hb d_MO_multiplies_15 rfl (lv_at hl 2 rfl) ?_
  refine g_MO_hi hc w mw_889 d_MO_multiplies_16 ?_
  refine lv_i2l hx hb d_MO_multiplies_19 rfl ?_
  refine lv_bipush (v := 32) hx hb d_MO_multiplies_20 (by decide) ?_
  refine lv_lshl hx hb d_MO_multiplies_22 rfl ?_
  refine lv_aload_n hx hb d_MO_multiplies_23 rfl (lv_at hl 2 rfl) ?_
  refine g_MO_lo hc w mw_890 d_MO_multiplies_24 ?_
  refine lv_i2l hx hb d_MO_multiplies_27 rfl ?_
  refine lv_ldc2 (v := 4294967295) hx hb ho (hT _ mw_1102) d_MO_multiplies_28 ?_
  refine lv_land hx hb d_MO_multiplies_31 ?_
  refine lv_lor hx hb d_MO_multiplies_32 ?_
  refine lv_lstore (lv' := [(6, .long (((Int32.toInt64 (m_hi σ)) <<< (Int32.toInt64 (32 : Int32) &&& 63)) ||| ((Int32.toInt64 (m_lo σ)) &&& (4294967295 : Int64)))), (5, .int ((a1 >>> ((11 : Int32) &&& 31)) &&& (31 : Int32))), (4, .int (a1 &&& (63 : Int32))), (0, .ref (ad 0)), (1, .int a1), (2, .int a2), (3, .int a3)]) hx hb d_MO_multiplies_33 hl (by decide) rfl (fun ls hl => ?_)
  refine lv_iload hx hb d_MO_multiplies_35 (lv_at hl 2 rfl) ?_
  refine lv_if_eq (tgt := 46) hx hb d_MO_multiplies_37 (by decide) (fun q37 => ?_) (fun q37 => ?_)
  · have hp := hp.1 q37
    exact J46 (((Int32.toInt64 (m_hi σ)) <<< (Int32.toInt64 (32 : Int32) &&& 63)) ||| ((Int32.toInt64 (m_lo σ)) &&& (4294967295 : Int64))) ((a1 >>> ((11 : Int32) &&& 31)) &&& (31 : Int32)) (a1 &&& (63 : Int32)) _ _ _ w (lv_sub hl [0, 1, 2, 3, 5, 6] rfl) (by rw [← e0, f_MO_multiplies, if_pos q37]) hp
  · have hp := hp.2 q37
    refine lv_iload hx hb d_MO_multiplies_40 (lv_at hl 2 rfl) ?_
    refine lv_iconst (v := 4) hx hb d_MO_multiplies_42 (by decide) ?_
    refine lv_icmp_ne (tgt := 50) hx hb d_MO_multiplies_43 (by decide) (fun q43 => ?_) (fun q43 => ?_)
    · have hp := hp.2 q43
      refine lv_iconst (v := 0) hx hb d_MO_multiplies_50 (by decide) ?_
      exact J51 (((Int32.toInt64 (m_hi σ)) <<< (Int32.toInt64 (32 : Int32) &&& 63)) ||| ((Int32.toInt64 (m_lo σ)) &&& (4294967295 : Int64))) ((a1 >>> ((11 : Int32) &&& 31)) &&& (31 : Int32)) (a1 &&& (63 : Int32)) false _ _ _ w (lv_sub hl [0, 1, 2, 3, 5, 6] rfl) (by rw [← e0, f_MO_multiplies, if_neg q37, if_neg q43]) hp
    · have hp := hp.1 q43
      exact J46 (((Int32.toInt64 (m_hi σ)) <<< (Int32.toInt64 (32 : Int32) &&& 63)) ||| ((Int32.toInt64 (m_lo σ)) &&& (4294967295 : Int64))) ((a1 >>> ((11 : Int32) &&& 31)) &&& (31 : Int32)) (a1 &&& (63 : Int32)) _ _ _ w (lv_sub hl [0, 1, 2, 3, 5, 6] rfl) (by rw [← e0, f_MO_multiplies, if_neg q37, if_pos q43]) hp
-- MO_special
def f_MO_special_c8 (z79 : MS) (a1 : Int32) (a2 : Int32) (a3 : Int32)  : MS := z79
def f_MO_special_75 (σ75 : MS) (a1 : Int32) (a2 : Int32) (a3 : Int32) : MS := f_MO_special_c8 (f_MO_branch σ75 true a2 false) a1 a2 a3 
def f_MO_special_c7 (z48 : MS × Int32) (a1 : Int32) (a2 : Int32) (a3 : Int32)  : MS := z48.1
def f_MO_special_c6 (z72 : MS) (a1 : Int32) (a2 : Int32) (a3 : Int32)  : MS := f_MO_special_75 z72 a1 a2 a3
def f_MO_special_38 (σ : MS) (a1 : Int32) (a2 : Int32) (a3 : Int32) (v38_5 : Int32) (v38_4 : Int32) : MS := if (zb (m_slot σ)) = 0 then (if v38_5 = (9 : Int32) then (f_MO_special_c6 (f_MO_put σ v38_4 ((m_pc σ) + (8 : Int32))) a1 a2 a3 ) else (f_MO_special_75 σ a1 a2 a3)) else (f_MO_special_c7 (f_MO_raise σ (10 : Int32)) a1 a2 a3 )
def f_MO_special_c5 (z235 : MS) (a1 : Int32) (a2 : Int32) (a3 : Int32)  : MS := z235
def f_MO_special_233 (σ : MS) (a1 : Int32) (a2 : Int32) (a3 : Int32) (w233_1 : Int32) : MS := f_MO_special_c5 (f_MO_trap σ w233_1 a2 a3) a1 a2 a3 
def f_MO_special_c4 (z113 : MS) (a1 : Int32) (a2 : Int32) (a3 : Int32)  : MS := z113
def f_MO_special_112 (σ : MS) (a1 : Int32) (a2 : Int32) (a3 : Int32) (w112_1 : Int32) (w112_2 : Int32) (w112_3 : Int32) : MS := f_MO_special_c4 (f_MO_shift σ w112_1 w112_2 w112_3 a3) a1 a2 a3 
def f_MO_special_c3 (z133 : MS) (a1 : Int32) (a2 : Int32) (a3 : Int32)  : MS := z133
def f_MO_special_c2 (z151 : MS) (a1 : Int32) (a2 : Int32) (a3 : Int32)  : MS := z151
def f_MO_special_c1 (z248 : MS) (a1 : Int32) (a2 : Int32) (a3 : Int32)  : MS := z248
def f_MO_special (σ : MS) (a1 : Int32) (a2 : Int32) (a3 : Int32) : MS := if (a1 &&& (63 : Int32)) = (8 : Int32) then (f_MO_special_38 σ a1 a2 a3 (a1 &&& (63 : Int32)) ((a1 >>> ((11 : Int32) &&& 31)) &&& (31 : Int32))) else (if (a1 &&& (63 : Int32)) = (9 : Int32) then (f_MO_special_38 σ a1 a2 a3 (a1 &&& (63 : Int32)) ((a1 >>> ((11 : Int32) &&& 31)) &&& (31 : Int32))) else (if (8 : Int32) ≤ (a1 &&& (63 : Int32)) then (if (24 : Int32) ≤ (a1 &&& (63 : Int32)) then (if (28 : Int32) ≤ (a1 &&& (63 : Int32)) then (if (a1 &&& (63 : Int32)) < (48 : Int32) then (f_MO_special_c1 (f_MO_sums σ (a1 &&& (63 : Int32)) ((a1 >>> ((11 : Int32) &&& 31)) &&& (31 : Int32)) a2 a3) a1 a2 a3 ) else (if (a1 &&& (63 : Int32)) = (48 : Int32) then (f_MO_special_233 σ a1 a2 a3 (0 : Int32)) else (if (a1 &&& (63 : Int32)) = (49 : Int32) then (f_MO_special_233 σ a1 a2 a3 (1 : Int32)) else (if (a1 &&& (63 : Int32)) = (50 : Int32) then (f_MO_special_233 σ a1 a2 a3 (2 : Int32)) else (if (a1 &&& (63 : Int32)) = (51 : Int32) then (f_MO_special_233 σ a1 a2 a3 (3 : Int32)) else (if (a1 &&& (63 : Int32)) = (52 : Int32) then (f_MO_special_233 σ a1 a2 a3 (4 : Int32)) else (if (a1 &&& (63 : Int32)) = (54 : Int32) then (f_MO_special_233 σ a1 a2 a3 (6 : Int32)) else (f_MO_special_233 σ a1 a2 a3 (-1 : Int32))))))))) else (f_MO_special_c2 (f_MO_divides σ (a1 &&& (63 : Int32)) a2 a3) a1 a2 a3 )) else (f_MO_special_c3 (f_MO_moves σ (a1 &&& (63 : Int32)) ((a1 >>> ((11 : Int32) &&& 31)) &&& (31 : Int32)) a2 a3) a1 a2 a3 )) else (if (4 : Int32) ≤ (a1 &&& (63 : Int32)) then (f_MO_special_112 σ a1 a2 a3 (a1 &&& (63 : Int32)) ((a1 >>> ((11 : Int32) &&& 31)) &&& (31 : Int32)) (a2 &&& (31 : Int32))) else (f_MO_special_112 σ a1 a2 a3 (a1 &&& (63 : Int32)) ((a1 >>> ((11 : Int32) &&& 31)) &&& (31 : Int32)) ((a1 >>> ((6 : Int32) &&& 31)) &&& (31 : Int32))))))
def P_MO_special_c8 (z79 : MS) (a1 : Int32) (a2 : Int32) (a3 : Int32)  : Prop := True
def P_MO_special_75 (σ75 : MS) (a1 : Int32) (a2 : Int32) (a3 : Int32) : Prop := P_MO_special_c8 (f_MO_branch σ75 true a2 false) a1 a2 a3 
def P_MO_special_c7 (z48 : MS × Int32) (a1 : Int32) (a2 : Int32) (a3 : Int32)  : Prop := True
def P_MO_special_c6 (z72 : MS) (a1 : Int32) (a2 : Int32) (a3 : Int32)  : Prop := P_MO_special_75 z72 a1 a2 a3
def P_MO_special_38 (σ : MS) (a1 : Int32) (a2 : Int32) (a3 : Int32) (v38_5 : Int32) (v38_4 : Int32) : Prop := (((zb (m_slot σ)) = 0) → (((v38_5 = (9 : Int32)) → (vp_in v38_4 32 ∧ P_MO_special_c6 (f_MO_put σ v38_4 ((m_pc σ) + (8 : Int32))) a1 a2 a3 )) ∧ (¬ (v38_5 = (9 : Int32)) → (P_MO_special_75 σ a1 a2 a3)))) ∧ (¬ ((zb (m_slot σ)) = 0) → (P_MO_special_c7 (f_MO_raise σ (10 : Int32)) a1 a2 a3 ))
def P_MO_special_c5 (z235 : MS) (a1 : Int32) (a2 : Int32) (a3 : Int32)  : Prop := True
def P_MO_special_233 (σ : MS) (a1 : Int32) (a2 : Int32) (a3 : Int32) (w233_1 : Int32) : Prop := P_MO_special_c5 (f_MO_trap σ w233_1 a2 a3) a1 a2 a3 
def P_MO_special_c4 (z113 : MS) (a1 : Int32) (a2 : Int32) (a3 : Int32)  : Prop := True
def P_MO_special_112 (σ : MS) (a1 : Int32) (a2 : Int32) (a3 : Int32) (w112_1 : Int32) (w112_2 : Int32) (w112_3 : Int32) : Prop := vp_in w112_2 32 ∧ P_MO_special_c4 (f_MO_shift σ w112_1 w112_2 w112_3 a3) a1 a2 a3 
def P_MO_special_c3 (z133 : MS) (a1 : Int32) (a2 : Int32) (a3 : Int32)  : Prop := True
def P_MO_special_c2 (z151 : MS) (a1 : Int32) (a2 : Int32) (a3 : Int32)  : Prop := True
def P_MO_special_c1 (z248 : MS) (a1 : Int32) (a2 : Int32) (a3 : Int32)  : Prop := True
def P_MO_special (σ : MS) (a1 : Int32) (a2 : Int32) (a3 : Int32) : Prop := (((a1 &&& (63 : Int32)) = (8 : Int32)) → (P_MO_special_38 σ a1 a2 a3 (a1 &&& (63 : Int32)) ((a1 >>> ((11 : Int32) &&& 31)) &&& (31 : Int32)))) ∧ (¬ ((a1 &&& (63 : Int32)) = (8 : Int32)) → ((((a1 &&& (63 : Int32)) = (9 : Int32)) → (P_MO_special_38 σ a1 a2 a3 (a1 &&& (63 : Int32)) ((a1 >>> ((11 : Int32) &&& 31)) &&& (31 : Int32)))) ∧ (¬ ((a1 &&& (63 : Int32)) = (9 : Int32)) → ((((8 : Int32) ≤ (a1 &&& (63 : Int32))) → ((((24 : Int32) ≤ (a1 &&& (63 : Int32))) → ((((28 : Int32) ≤ (a1 &&& (63 : Int32))) → ((((a1 &&& (63 : Int32)) < (48 : Int32)) → (P_MO_special_c1 (f_MO_sums σ (a1 &&& (63 : Int32)) ((a1 >>> ((11 : Int32) &&& 31)) &&& (31 : Int32)) a2 a3) a1 a2 a3 )) ∧ (¬ ((a1 &&& (63 : Int32)) < (48 : Int32)) → ((((a1 &&& (63 : Int32)) = (48 : Int32)) → (P_MO_special_233 σ a1 a2 a3 (0 : Int32))) ∧ (¬ ((a1 &&& (63 : Int32)) = (48 : Int32)) → ((((a1 &&& (63 : Int32)) = (49 : Int32)) → (P_MO_special_233 σ a1 a2 a3 (1 : Int32))) ∧ (¬ ((a1 &&& (63 : Int32)) = (49 : Int32)) → ((((a1 &&& (63 : Int32)) = (50 : Int32)) → (P_MO_special_233 σ a1 a2 a3 (2 : Int32))) ∧ (¬ ((a1 &&& (63 : Int32)) = (50 : Int32)) → ((((a1 &&& (63 : Int32)) = (51 : Int32)) → (P_MO_special_233 σ a1 a2 a3 (3 : Int32))) ∧ (¬ ((a1 &&& (63 : Int32)) = (51 : Int32)) → ((((a1 &&& (63 : Int32)) = (52 : Int32)) → (P_MO_special_233 σ a1 a2 a3 (4 : Int32))) ∧ (¬ ((a1 &&& (63 : Int32)) = (52 : Int32)) → ((((a1 &&& (63 : Int32)) = (54 : Int32)) → (P_MO_special_233 σ a1 a2 a3 (6 : Int32))) ∧ (¬ ((a1 &&& (63 : Int32)) = (54 : Int32)) → (P_MO_special_233 σ a1 a2 a3 (-1 : Int32))))))))))))))))) ∧ (¬ ((28 : Int32) ≤ (a1 &&& (63 : Int32))) → (P_MO_special_c2 (f_MO_divides σ (a1 &&& (63 : Int32)) a2 a3) a1 a2 a3 )))) ∧ (¬ ((24 : Int32) ≤ (a1 &&& (63 : Int32))) → (P_MO_special_c3 (f_MO_moves σ (a1 &&& (63 : Int32)) ((a1 >>> ((11 : Int32) &&& 31)) &&& (31 : Int32)) a2 a3) a1 a2 a3 )))) ∧ (¬ ((8 : Int32) ≤ (a1 &&& (63 : Int32))) → ((((4 : Int32) ≤ (a1 &&& (63 : Int32))) → (P_MO_special_112 σ a1 a2 a3 (a1 &&& (63 : Int32)) ((a1 >>> ((11 : Int32) &&& 31)) &&& (31 : Int32)) (a2 &&& (31 : Int32)))) ∧ (¬ ((4 : Int32) ≤ (a1 &&& (63 : Int32))) → (P_MO_special_112 σ a1 a2 a3 (a1 &&& (63 : Int32)) ((a1 >>> ((11 : Int32) &&& 31)) &&& (31 : Int32)) ((a1 >>> ((6 : Int32) &&& 31)) &&& (31 : Int32))))))))))
theorem d_MO_special_0 : decode b_MO_special 0 = .ok (.iload_n 1, 1) := by decide +kernel
theorem d_MO_special_1 : decode b_MO_special 1 = .ok (.bipush 11, 2) := by decide +kernel
theorem d_MO_special_3 : decode b_MO_special 3 = .ok (.ishr, 1) := by decide +kernel
theorem d_MO_special_4 : decode b_MO_special 4 = .ok (.bipush 31, 2) := by decide +kernel
theorem d_MO_special_6 : decode b_MO_special 6 = .ok (.iand, 1) := by decide +kernel
theorem d_MO_special_7 : decode b_MO_special 7 = .ok (.istore 4, 2) := by decide +kernel
theorem d_MO_special_9 : decode b_MO_special 9 = .ok (.iload_n 1, 1) := by decide +kernel
theorem d_MO_special_10 : decode b_MO_special 10 = .ok (.bipush 63, 2) := by decide +kernel
theorem d_MO_special_12 : decode b_MO_special 12 = .ok (.iand, 1) := by decide +kernel
theorem d_MO_special_13 : decode b_MO_special 13 = .ok (.istore 5, 2) := by decide +kernel
theorem d_MO_special_15 : decode b_MO_special 15 = .ok (.iload_n 1, 1) := by decide +kernel
theorem d_MO_special_16 : decode b_MO_special 16 = .ok (.bipush 6, 2) := by decide +kernel
theorem d_MO_special_18 : decode b_MO_special 18 = .ok (.ishr, 1) := by decide +kernel
theorem d_MO_special_19 : decode b_MO_special 19 = .ok (.bipush 31, 2) := by decide +kernel
theorem d_MO_special_21 : decode b_MO_special 21 = .ok (.iand, 1) := by decide +kernel
theorem d_MO_special_22 : decode b_MO_special 22 = .ok (.istore 6, 2) := by decide +kernel
theorem d_MO_special_24 : decode b_MO_special 24 = .ok (.iload 5, 2) := by decide +kernel
theorem d_MO_special_26 : decode b_MO_special 26 = .ok (.bipush 8, 2) := by decide +kernel
theorem d_MO_special_28 : decode b_MO_special 28 = .ok (.if_icmp .eq 10, 3) := by decide +kernel
theorem d_MO_special_31 : decode b_MO_special 31 = .ok (.iload 5, 2) := by decide +kernel
theorem d_MO_special_33 : decode b_MO_special 33 = .ok (.bipush 9, 2) := by decide +kernel
theorem d_MO_special_35 : decode b_MO_special 35 = .ok (.if_icmp .ne 50, 3) := by decide +kernel
theorem d_MO_special_38 : decode b_MO_special 38 = .ok (.aload_n 0, 1) := by decide +kernel
theorem d_MO_special_39 : decode b_MO_special 39 = .ok (.getfield 68, 3) := by decide +kernel
theorem d_MO_special_42 : decode b_MO_special 42 = .ok (.ifCond .eq 13, 3) := by decide +kernel
theorem d_MO_special_45 : decode b_MO_special 45 = .ok (.aload_n 0, 1) := by decide +kernel
theorem d_MO_special_46 : decode b_MO_special 46 = .ok (.bipush 10, 2) := by decide +kernel
theorem d_MO_special_48 : decode b_MO_special 48 = .ok (.invokevirtual 196, 3) := by decide +kernel
theorem d_MO_special_51 : decode b_MO_special 51 = .ok (.pop, 1) := by decide +kernel
theorem d_MO_special_52 : decode b_MO_special 52 = .ok (.goto 199, 3) := by decide +kernel
theorem d_MO_special_55 : decode b_MO_special 55 = .ok (.iload 5, 2) := by decide +kernel
theorem d_MO_special_57 : decode b_MO_special 57 = .ok (.bipush 9, 2) := by decide +kernel
theorem d_MO_special_59 : decode b_MO_special 59 = .ok (.if_icmp .ne 16, 3) := by decide +kernel
theorem d_MO_special_62 : decode b_MO_special 62 = .ok (.aload_n 0, 1) := by decide +kernel
theorem d_MO_special_63 : decode b_MO_special 63 = .ok (.iload 4, 2) := by decide +kernel
theorem d_MO_special_65 : decode b_MO_special 65 = .ok (.aload_n 0, 1) := by decide +kernel
theorem d_MO_special_66 : decode b_MO_special 66 = .ok (.getfield 40, 3) := by decide +kernel
theorem d_MO_special_69 : decode b_MO_special 69 = .ok (.bipush 8, 2) := by decide +kernel
theorem d_MO_special_71 : decode b_MO_special 71 = .ok (.iadd, 1) := by decide +kernel
theorem d_MO_special_72 : decode b_MO_special 72 = .ok (.invokevirtual 78, 3) := by decide +kernel
theorem d_MO_special_75 : decode b_MO_special 75 = .ok (.aload_n 0, 1) := by decide +kernel
theorem d_MO_special_76 : decode b_MO_special 76 = .ok (.iconst 1, 1) := by decide +kernel
theorem d_MO_special_77 : decode b_MO_special 77 = .ok (.iload_n 2, 1) := by decide +kernel
theorem d_MO_special_78 : decode b_MO_special 78 = .ok (.iconst 0, 1) := by decide +kernel
theorem d_MO_special_79 : decode b_MO_special 79 = .ok (.invokevirtual 199, 3) := by decide +kernel
theorem d_MO_special_82 : decode b_MO_special 82 = .ok (.goto 169, 3) := by decide +kernel
theorem d_MO_special_85 : decode b_MO_special 85 = .ok (.iload 5, 2) := by decide +kernel
theorem d_MO_special_87 : decode b_MO_special 87 = .ok (.bipush 8, 2) := by decide +kernel
theorem d_MO_special_89 : decode b_MO_special 89 = .ok (.if_icmp .ge 30, 3) := by decide +kernel
theorem d_MO_special_92 : decode b_MO_special 92 = .ok (.aload_n 0, 1) := by decide +kernel
theorem d_MO_special_93 : decode b_MO_special 93 = .ok (.iload 5, 2) := by decide +kernel
theorem d_MO_special_95 : decode b_MO_special 95 = .ok (.iload 4, 2) := by decide +kernel
theorem d_MO_special_97 : decode b_MO_special 97 = .ok (.iload 5, 2) := by decide +kernel
theorem d_MO_special_99 : decode b_MO_special 99 = .ok (.iconst 4, 1) := by decide +kernel
theorem d_MO_special_100 : decode b_MO_special 100 = .ok (.if_icmp .ge 8, 3) := by decide +kernel
theorem d_MO_special_103 : decode b_MO_special 103 = .ok (.iload 6, 2) := by decide +kernel
theorem d_MO_special_105 : decode b_MO_special 105 = .ok (.goto 7, 3) := by decide +kernel
theorem d_MO_special_108 : decode b_MO_special 108 = .ok (.iload_n 2, 1) := by decide +kernel
theorem d_MO_special_109 : decode b_MO_special 109 = .ok (.bipush 31, 2) := by decide +kernel
theorem d_MO_special_111 : decode b_MO_special 111 = .ok (.iand, 1) := by decide +kernel
theorem d_MO_special_112 : decode b_MO_special 112 = .ok (.iload_n 3, 1) := by decide +kernel
theorem d_MO_special_113 : decode b_MO_special 113 = .ok (.invokevirtual 203, 3) := by decide +kernel
theorem d_MO_special_116 : decode b_MO_special 116 = .ok (.goto 135, 3) := by decide +kernel
theorem d_MO_special_119 : decode b_MO_special 119 = .ok (.iload 5, 2) := by decide +kernel
theorem d_MO_special_121 : decode b_MO_special 121 = .ok (.bipush 24, 2) := by decide +kernel
theorem d_MO_special_123 : decode b_MO_special 123 = .ok (.if_icmp .ge 16, 3) := by decide +kernel
theorem d_MO_special_126 : decode b_MO_special 126 = .ok (.aload_n 0, 1) := by decide +kernel
theorem d_MO_special_127 : decode b_MO_special 127 = .ok (.iload 5, 2) := by decide +kernel
theorem d_MO_special_129 : decode b_MO_special 129 = .ok (.iload 4, 2) := by decide +kernel
theorem d_MO_special_131 : decode b_MO_special 131 = .ok (.iload_n 2, 1) := by decide +kernel
theorem d_MO_special_132 : decode b_MO_special 132 = .ok (.iload_n 3, 1) := by decide +kernel
theorem d_MO_special_133 : decode b_MO_special 133 = .ok (.invokevirtual 206, 3) := by decide +kernel
theorem d_MO_special_136 : decode b_MO_special 136 = .ok (.goto 115, 3) := by decide +kernel
theorem d_MO_special_139 : decode b_MO_special 139 = .ok (.iload 5, 2) := by decide +kernel
theorem d_MO_special_141 : decode b_MO_special 141 = .ok (.bipush 28, 2) := by decide +kernel
theorem d_MO_special_143 : decode b_MO_special 143 = .ok (.if_icmp .ge 14, 3) := by decide +kernel
theorem d_MO_special_146 : decode b_MO_special 146 = .ok (.aload_n 0, 1) := by decide +kernel
theorem d_MO_special_147 : decode b_MO_special 147 = .ok (.iload 5, 2) := by decide +kernel
theorem d_MO_special_149 : decode b_MO_special 149 = .ok (.iload_n 2, 1) := by decide +kernel
theorem d_MO_special_150 : decode b_MO_special 150 = .ok (.iload_n 3, 1) := by decide +kernel
theorem d_MO_special_151 : decode b_MO_special 151 = .ok (.invokevirtual 209, 3) := by decide +kernel
theorem d_MO_special_154 : decode b_MO_special 154 = .ok (.goto 97, 3) := by decide +kernel
theorem d_MO_special_157 : decode b_MO_special 157 = .ok (.iload 5, 2) := by decide +kernel
theorem d_MO_special_159 : decode b_MO_special 159 = .ok (.bipush 48, 2) := by decide +kernel
theorem d_MO_special_161 : decode b_MO_special 161 = .ok (.if_icmp .lt 80, 3) := by decide +kernel
theorem d_MO_special_164 : decode b_MO_special 164 = .ok (.aload_n 0, 1) := by decide +kernel
theorem d_MO_special_165 : decode b_MO_special 165 = .ok (.iload 5, 2) := by decide +kernel
theorem d_MO_special_167 : decode b_MO_special 167 = .ok (.bipush 48, 2) := by decide +kernel
theorem d_MO_special_169 : decode b_MO_special 169 = .ok (.if_icmp .ne 7, 3) := by decide +kernel
theorem d_MO_special_172 : decode b_MO_special 172 = .ok (.iconst 0, 1) := by decide +kernel
theorem d_MO_special_173 : decode b_MO_special 173 = .ok (.goto 60, 3) := by decide +kernel
theorem d_MO_special_176 : decode b_MO_special 176 = .ok (.iload 5, 2) := by decide +kernel
theorem d_MO_special_178 : decode b_MO_special 178 = .ok (.bipush 49, 2) := by decide +kernel
theorem d_MO_special_180 : decode b_MO_special 180 = .ok (.if_icmp .ne 7, 3) := by decide +kernel
theorem d_MO_special_183 : decode b_MO_special 183 = .ok (.iconst 1, 1) := by decide +kernel
theorem d_MO_special_184 : decode b_MO_special 184 = .ok (.goto 49, 3) := by decide +kernel
theorem d_MO_special_187 : decode b_MO_special 187 = .ok (.iload 5, 2) := by decide +kernel
theorem d_MO_special_189 : decode b_MO_special 189 = .ok (.bipush 50, 2) := by decide +kernel
theorem d_MO_special_191 : decode b_MO_special 191 = .ok (.if_icmp .ne 7, 3) := by decide +kernel
theorem d_MO_special_194 : decode b_MO_special 194 = .ok (.iconst 2, 1) := by decide +kernel
theorem d_MO_special_195 : decode b_MO_special 195 = .ok (.goto 38, 3) := by decide +kernel
theorem d_MO_special_198 : decode b_MO_special 198 = .ok (.iload 5, 2) := by decide +kernel
theorem d_MO_special_200 : decode b_MO_special 200 = .ok (.bipush 51, 2) := by decide +kernel
theorem d_MO_special_202 : decode b_MO_special 202 = .ok (.if_icmp .ne 7, 3) := by decide +kernel
theorem d_MO_special_205 : decode b_MO_special 205 = .ok (.iconst 3, 1) := by decide +kernel
theorem d_MO_special_206 : decode b_MO_special 206 = .ok (.goto 27, 3) := by decide +kernel
theorem d_MO_special_209 : decode b_MO_special 209 = .ok (.iload 5, 2) := by decide +kernel
theorem d_MO_special_211 : decode b_MO_special 211 = .ok (.bipush 52, 2) := by decide +kernel
theorem d_MO_special_213 : decode b_MO_special 213 = .ok (.if_icmp .ne 7, 3) := by decide +kernel
theorem d_MO_special_216 : decode b_MO_special 216 = .ok (.iconst 4, 1) := by decide +kernel
theorem d_MO_special_217 : decode b_MO_special 217 = .ok (.goto 16, 3) := by decide +kernel
theorem d_MO_special_220 : decode b_MO_special 220 = .ok (.iload 5, 2) := by decide +kernel
theorem d_MO_special_222 : decode b_MO_special 222 = .ok (.bipush 54, 2) := by decide +kernel
theorem d_MO_special_224 : decode b_MO_special 224 = .ok (.if_icmp .ne 8, 3) := by decide +kernel
theorem d_MO_special_227 : decode b_MO_special 227 = .ok (.bipush 6, 2) := by decide +kernel
theorem d_MO_special_229 : decode b_MO_special 229 = .ok (.goto 4, 3) := by decide +kernel
theorem d_MO_special_232 : decode b_MO_special 232 = .ok (.iconst (-1), 1) := by decide +kernel
theorem d_MO_special_233 : decode b_MO_special 233 = .ok (.iload_n 2, 1) := by decide +kernel
theorem d_MO_special_234 : decode b_MO_special 234 = .ok (.iload_n 3, 1) := by decide +kernel
theorem d_MO_special_235 : decode b_MO_special 235 = .ok (.invokevirtual 212, 3) := by decide +kernel
theorem d_MO_special_238 : decode b_MO_special 238 = .ok (.goto 13, 3) := by decide +kernel
theorem d_MO_special_241 : decode b_MO_special 241 = .ok (.aload_n 0, 1) := by decide +kernel
theorem d_MO_special_242 : decode b_MO_special 242 = .ok (.iload 5, 2) := by decide +kernel
theorem d_MO_special_244 : decode b_MO_special 244 = .ok (.iload 4, 2) := by decide +kernel
theorem d_MO_special_246 : decode b_MO_special 246 = .ok (.iload_n 2, 1) := by decide +kernel
theorem d_MO_special_247 : decode b_MO_special 247 = .ok (.iload_n 3, 1) := by decide +kernel
theorem d_MO_special_248 : decode b_MO_special 248 = .ok (.invokevirtual 215, 3) := by decide +kernel
theorem d_MO_special_251 : decode b_MO_special 251 = .ok (.return_, 1) := by decide +kernel
set_option maxHeartbeats 4000000 in
set_option maxRecDepth 100000 in
theorem c_MO_special (l : Launch) (E : Ev) (ad : Nat → Nat) (σ : MS) (a1 : Int32) (a2 : Int32) (a3 : Int32) (hp : P_MO_special σ a1 a2 a3) : rC xCl l E (mW E ad) y_MO_special b_MO_special 7 (Option.none : Option Jvm.ClassFile.FieldType) (rmo 2 50) [.ref (ad 0), .int a1, .int a2, .int a3] σ (zV (f_MO_special σ a1 a2 a3)) := by
  refine rC.of (by decide) (Nat.le_of_ble_eq_true rfl) ?_
  intro p e s m below meth c A ls hc w hl
  generalize e0 : zV (f_MO_special σ a1 a2 a3) = Z
  have hc : Cx xCl E A p s m ([.ref (ad 0), .int a1, .int a2, .int a3] : List Value).toArray meth c b_MO_special 7 (Option.none : Option Jvm.ClassFile.FieldType) "PageMachineModel" := hc
  have hx := hc.1
  have hb := hc.2.1
  have ho := hc.2.2.2.2.2.1
  have hT := hc.2.2.2.2.2.2.1
  have hl : lv_has ls 7 [(0, .ref (ad 0)), (1, .int a1), (2, .int a2), (3, .int a3)] := hl
  have J75 : ∀ (σ75 : MS) (H : Heap) (locs : List Loc) (ls : Array Slot), Wd xCl E A s.heap H locs (mW E ad σ75) → lv_has ls 7 [(0, .ref (ad 0)), (2, .int a2)] → zV (f_MO_special_75 σ75 a1 a2 a3) = Z → P_MO_special_75 σ75 a1 a2 a3 → W p l e (rmo 2 50) s m ([.ref (ad 0), .int a1, .int a2, .int a3] : List Value).toArray below meth c H locs 0 0 (MQ below (rQ xCl (mW E ad) E A Z) ([.ref (ad 0), .int a1, .int a2, .int a3] : List Value).toArray s 0 0 A) (F0 m 75 ls []) := by
    intro σ75 H locs ls w hl e75 hp
    unfold P_MO_special_75 at hp
    refine lv_aload_n hx hb d_MO_special_75 rfl (lv_at hl 0 rfl) ?_
    refine lv_iconst (v := 1) hx hb d_MO_special_76 (by decide) ?_
    refine lv_iload_n hx hb d_MO_special_77 rfl (lv_at hl 1 rfl) ?_
    refine lv_iconst (v := 0) hx hb d_MO_special_78 (by decide) ?_
    refine cVV (rest := []) hc w (c_MO_branch l E ad σ75 true a2 false) kv_MO_branch mw_1083 0 rfl rfl ⟨Nat.le_of_ble_eq_true rfl, Nat.le_of_ble_eq_true rfl⟩ hl.1 rfl (Nat.le_of_ble_eq_true rfl) ⟨Nat.zero_le _, Nat.zero_le _⟩ d_MO_special_79 (fun z79 H locs hs79 w => ?_)
    rw [hs79] at hp
    unfold P_MO_special_c8 at hp
    have e_c8 : zV (f_MO_special_c8 z79 a1 a2 a3 ) = Z := by rw [← e75, f_MO_special_75, hs79]
    refine lv_goto (tgt := 251) hx hb d_MO_special_82 (by decide) ?_
    exact rt_v hc w d_MO_special_251 (by rw [← e_c8, f_MO_special_c8] <;> rfl)
  have J38 : ∀ (v38_5 : Int32) (v38_4 : Int32) (H : Heap) (locs : List Loc) (ls : Array Slot), Wd xCl E A s.heap H locs (mW E ad σ) → lv_has ls 7 [(5, .int v38_5), (4, .int v38_4), (0, .ref (ad 0)), (2, .int a2)] → zV (f_MO_special_38 σ a1 a2 a3 v38_5 v38_4) = Z → P_MO_special_38 σ a1 a2 a3 v38_5 v38_4 → W p l e (rmo 2 50) s m ([.ref (ad 0), .int a1, .int a2, .int a3] : List Value).toArray below meth c H locs 0 0 (MQ below (rQ xCl (mW E ad) E A Z) ([.ref (ad 0), .int a1, .int a2, .int a3] : List Value).toArray s 0 0 A) (F0 m 38 ls []) := by
    intro v38_5 v38_4 H locs ls w hl e38 hp
    unfold P_MO_special_38 at hp
    refine lv_aload_n hx hb d_MO_special_38 rfl (lv_at hl 2 rfl) ?_
    refine g_MO_slot hc w mw_894 d_MO_special_39 ?_
    refine lv_if_eq (tgt := 55) hx hb d_MO_special_42 (by decide) (fun q42 => ?_) (fun q42 => ?_)
    · have hp := hp.1 q42
      refine lv_iload hx hb d_MO_special_55 (lv_at hl 0 rfl) ?_
      refine lv_bipush (v := 9) hx hb d_MO_special_57 (by decide) ?_
      refine lv_icmp_ne (tgt := 75) hx hb d_MO_special_59 (by decide) (fun q59 => ?_) (fun q59 => ?_)
      · have hp := hp.2 q59
        exact J75 σ _ _ _ w (lv_sub hl [2, 3] rfl) (by rw [← e38, f_MO_special_38, if_pos q42, if_neg q59]) hp
      · have hp := hp.1 q59
        refine lv_aload_n hx hb d_MO_special_62 rfl (lv_at hl 2 rfl) ?_
        refine lv_iload hx hb d_MO_special_63 (lv_at hl 1 rfl) ?_
        refine lv_aload_n hx hb d_MO_special_65 rfl (lv_at hl 2 rfl) ?_
        refine g_MO_pc hc w mw_891 d_MO_special_66 ?_
        refine lv_bipush (v := 8) hx hb d_MO_special_69 (by decide) ?_
        refine lv_iadd hx hb d_MO_special_71 ?_
        obtain ⟨hb72, hp⟩ := hp
        refine cVV (rest := []) hc w (c_MO_put l E ad σ v38_4 ((m_pc σ) + (8 : Int32)) hb72) kv_MO_put mw_1000 0 rfl rfl ⟨Nat.le_of_ble_eq_true rfl, Nat.le_of_ble_eq_true rfl⟩ hl.1 rfl (Nat.le_of_ble_eq_true rfl) ⟨Nat.zero_le _, Nat.zero_le _⟩ d_MO_special_72 (fun z72 H locs hs72 w => ?_)
        rw [hs72] at hp
        unfold P_MO_special_c6 at hp
        have e_c6 : zV (f_MO_special_c6 z72 a1 a2 a3 ) = Z := by rw [← e38, f_MO_special_38, if_pos q42, if_pos q59, hs72]
        exact J75 z72 _ _ _ w (lv_sub hl [2, 3] rfl) (by rw [← e_c6, f_MO_special_c6]) hp
    · have hp := hp.2 q42
      refine lv_aload_n hx hb d_MO_special_45 rfl (lv_at hl 2 rfl) ?_
      refine lv_bipush (v := 10) hx hb d_MO_special_46 (by decide) ?_
      refine cVI (rest := []) hc w (c_MO_raise l E ad σ (10 : Int32)) kv_MO_raise mw_1079 0 rfl rfl ⟨Nat.le_of_ble_eq_true rfl, Nat.le_of_ble_eq_true rfl⟩ hl.1 rfl (Nat.le_of_ble_eq_true rfl) ⟨Nat.zero_le _, Nat.zero_le _⟩ d_MO_special_48 (fun z48 H locs hs48 w => ?_)
      rw [hs48] at hp
      unfold P_MO_special_c7 at hp
      have e_c7 : zV (f_MO_special_c7 z48 a1 a2 a3 ) = Z := by rw [← e38, f_MO_special_38, if_neg q42, hs48]
      refine lv_pop hx hb d_MO_special_51 rfl ?_
      refine lv_goto (tgt := 251) hx hb d_MO_special_52 (by decide) ?_
      exact rt_v hc w d_MO_special_251 (by rw [← e_c7, f_MO_special_c7] <;> rfl)
  have J233 : ∀ (w233_1 : Int32) (H : Heap) (locs : List Loc) (ls : Array Slot), Wd xCl E A s.heap H locs (mW E ad σ) → lv_has ls 7 [(2, .int a2), (3, .int a3)] → zV (f_MO_special_233 σ a1 a2 a3 w233_1) = Z → P_MO_special_233 σ a1 a2 a3 w233_1 → W p l e (rmo 2 50) s m ([.ref (ad 0), .int a1, .int a2, .int a3] : List Value).toArray below meth c H locs 0 0 (MQ below (rQ xCl (mW E ad) E A Z) ([.ref (ad 0), .int a1, .int a2, .int a3] : List Value).toArray s 0 0 A) (F0 m 233 ls [.int w233_1, .ref (ad 0)]) := by
    intro w233_1 H locs ls w hl e233 hp
    unfold P_MO_special_233 at hp
    refine lv_iload_n hx hb d_MO_special_233 rfl (lv_at hl 0 rfl) ?_
    refine lv_iload_n hx hb d_MO_special_234 rfl (lv_at hl 1 rfl) ?_
    refine cVV (rest := []) hc w (c_MO_trap l E ad σ w233_1 a2 a3) kv_MO_trap mw_1107 0 rfl rfl ⟨Nat.le_of_ble_eq_true rfl, Nat.le_of_ble_eq_true rfl⟩ hl.1 rfl (Nat.le_of_ble_eq_true rfl) ⟨Nat.zero_le _, Nat.zero_le _⟩ d_MO_special_235 (fun z235 H locs hs235 w => ?_)
    rw [hs235] at hp
    unfold P_MO_special_c5 at hp
    have e_c5 : zV (f_MO_special_c5 z235 a1 a2 a3 ) = Z := by rw [← e233, f_MO_special_233, hs235]
    refine lv_goto (tgt := 251) hx hb d_MO_special_238 (by decide) ?_
    exact rt_v hc w d_MO_special_251 (by rw [← e_c5, f_MO_special_c5] <;> rfl)
  have J112 : ∀ (w112_1 : Int32) (w112_2 : Int32) (w112_3 : Int32) (H : Heap) (locs : List Loc) (ls : Array Slot), Wd xCl E A s.heap H locs (mW E ad σ) → lv_has ls 7 [(3, .int a3)] → zV (f_MO_special_112 σ a1 a2 a3 w112_1 w112_2 w112_3) = Z → P_MO_special_112 σ a1 a2 a3 w112_1 w112_2 w112_3 → W p l e (rmo 2 50) s m ([.ref (ad 0), .int a1, .int a2, .int a3] : List Value).toArray below meth c H locs 0 0 (MQ below (rQ xCl (mW E ad) E A Z) ([.ref (ad 0), .int a1, .int a2, .int a3] : List Value).toArray s 0 0 A) (F0 m 112 ls [.int w112_3, .int w112_2, .int w112_1, .ref (ad 0)]) := by
    intro w112_1 w112_2 w112_3 H locs ls w hl e112 hp
    unfold P_MO_special_112 at hp
    refine lv_iload_n hx hb d_MO_special_112 rfl (lv_at hl 0 rfl) ?_
    obtain ⟨hb113, hp⟩ := hp
    refine cVV (rest := []) hc w (c_MO_shift l E ad σ w112_1 w112_2 w112_3 a3 hb113) kv_MO_shift mw_1087 0 rfl rfl ⟨Nat.le_of_ble_eq_true rfl, Nat.le_of_ble_eq_true rfl⟩ hl.1 rfl (Nat.le_of_ble_eq_true rfl) ⟨Nat.zero_le _, Nat.zero_le _⟩ d_MO_special_113 (fun z113 H locs hs113 w => ?_)
    rw [hs113] at hp
    unfold P_MO_special_c4 at hp
    have e_c4 : zV (f_MO_special_c4 z113 a1 a2 a3 ) = Z := by rw [← e112, f_MO_special_112, hs113]
    refine lv_goto (tgt := 251) hx hb d_MO_special_116 (by decide) ?_
    exact rt_v hc w d_MO_special_251 (by rw [← e_c4, f_MO_special_c4] <;> rfl)
  unfold P_MO_special at hp
  refine lv_iload_n hx hb d_MO_special_0 rfl (lv_at hl 1 rfl) ?_
  refine lv_bipush (v := 11) hx hb d_MO_special_1 (by decide) ?_
  refine lv_ishr hx hb d_MO_special_3 ?_
  refine lv_bipush (v := 31) hx hb d_MO_special_4 (by decide) ?_
  refine lv_iand hx hb d_MO_special_6 ?_
  refine lv_istore (lv' := [(4, .int ((a1 >>> ((11 : Int32) &&& 31)) &&& (31 : Int32))), (0, .ref (ad 0)), (1, .int a1), (2, .int a2), (3, .int a3)]) hx hb d_MO_special_7 hl (by decide) rfl (fun ls hl => ?_)
  refine lv_iload_n hx hb d_MO_special_9 rfl (lv_at hl 2 rfl) ?_
  refine lv_bipush (v := 63) hx hb d_MO_special_10 (by decide) ?_
  refine lv_iand hx hb d_MO_special_12 ?_
  refine lv_istore (lv' := [(5, .int (a1 &&& (63 : Int32))), (4, .int ((a1 >>> ((11 : Int32) &&& 31)) &&& (31 : Int32))), (0, .ref (ad 0)), (1, .int a1), (2, .int a2), (3, .int a3)]) hx hb d_MO_special_13 hl (by decide) rfl (fun ls hl => ?_)
  refine lv_iload_n hx hb d_MO_special_15 rfl (lv_at hl 3 rfl) ?_
  refine lv_bipush (v := 6) hx hb d_MO_special_16 (by decide) ?_
  refine lv_ishr hx hb d_MO_special_18 ?_
  refine lv_bipush (v := 31) hx hb d_MO_special_19 (by decide) ?_
  refine lv_iand hx hb d_MO_special_21 ?_
  refine lv_istore (lv' := [(6, .int ((a1 >>> ((6 : Int32) &&& 31)) &&& (31 : Int32))), (5, .int (a1 &&& (63 : Int32))), (4, .int ((a1 >>> ((11 : Int32) &&& 31)) &&& (31 : Int32))), (0, .ref (ad 0)), (1, .int a1), (2, .int a2), (3, .int a3)]) hx hb d_MO_special_22 hl (by decide) rfl (fun ls hl => ?_)
  refine lv_iload hx hb d_MO_special_24 (lv_at hl 1 rfl) ?_
  refine lv_bipush (v := 8) hx hb d_MO_special_26 (by decide) ?_
  refine lv_icmp_eq (tgt := 38) hx hb d_MO_special_28 (by decide) (fun q28 => ?_) (fun q28 => ?_)
  · have hp := hp.1 q28
    exact J38 (a1 &&& (63 : Int32)) ((a1 >>> ((11 : Int32) &&& 31)) &&& (31 : Int32)) _ _ _ w (lv_sub hl [1, 2, 3, 5] rfl) (by rw [← e0, f_MO_special, if_pos q28]) hp
  · have hp := hp.2 q28
    refine lv_iload hx hb d_MO_special_31 (lv_at hl 1 rfl) ?_
    refine lv_bipush (v := 9) hx hb d_MO_special_33 (by decide) ?_
    refine lv_icmp_ne (tgt := 85) hx hb d_MO_special_35 (by decide) (fun q35 => ?_) (fun q35 => ?_)
    · have hp := hp.2 q35
      refine lv_iload hx hb d_MO_special_85 (lv_at hl 1 rfl) ?_
      refine lv_bipush (v := 8) hx hb d_MO_special_87 (by decide) ?_
      refine lv_icmp_ge (tgt := 119) hx hb d_MO_special_89 (by decide) (fun q89 => ?_) (fun q89 => ?_)
      · have hp := hp.1 q89
        refine lv_iload hx hb d_MO_special_119 (lv_at hl 1 rfl) ?_
        refine lv_bipush (v := 24) hx hb d_MO_special_121 (by decide) ?_
        refine lv_icmp_ge (tgt := 139) hx hb d_MO_special_123 (by decide) (fun q123 => ?_) (fun q123 => ?_)
        · have hp := hp.1 q123
          refine lv_iload hx hb d_MO_special_139 (lv_at hl 1 rfl) ?_
          refine lv_bipush (v := 28) hx hb d_MO_special_141 (by decide) ?_
          refine lv_icmp_ge (tgt := 157) hx hb d_MO_special_143 (by decide) (fun q143 => ?_) (fun q143 => ?_)
          · have hp := hp.1 q143
            refine lv_iload hx hb d_MO_special_157 (lv_at hl 1 rfl) ?_
            refine lv_bipush (v := 48) hx hb d_MO_special_159 (by decide) ?_
            refine lv_icmp_lt (tgt := 241) hx hb d_MO_special_161 (by decide) (fun q161 => ?_) (fun q161 => ?_)
            · have hp := hp.1 q161
              refine lv_aload_n hx hb d_MO_special_241 rfl (lv_at hl 3 rfl) ?_
              refine lv_iload hx hb d_MO_special_242 (lv_at hl 1 rfl) ?_
              refine lv_iload hx hb d_MO_special_244 (lv_at hl 2 rfl) ?_
              refine lv_iload_n hx hb d_MO_special_246 rfl (lv_at hl 5 rfl) ?_
              refine lv_iload_n hx hb d_MO_special_247 rfl (lv_at hl 6 rfl) ?_
              refine cVV (rest := []) hc w (c_MO_sums l E ad σ (a1 &&& (63 : Int32)) ((a1 >>> ((11 : Int32) &&& 31)) &&& (31 : Int32)) a2 a3 (bd31 _)) kv_MO_sums mw_1114 0 rfl rfl ⟨Nat.le_of_ble_eq_true rfl, Nat.le_of_ble_eq_true rfl⟩ hl.1 rfl (Nat.le_of_ble_eq_true rfl) ⟨Nat.zero_le _, Nat.zero_le _⟩ d_MO_special_248 (fun z248 H locs hs248 w => ?_)
              rw [hs248] at hp
              unfold P_MO_special_c1 at hp
              have e_c1 : zV (f_MO_special_c1 z248 a1 a2 a3 ) = Z := by rw [← e0, f_MO_special, if_neg q28, if_neg q35, if_pos q89, if_pos q123, if_pos q143, if_pos q161, hs248]
              exact rt_v hc w d_MO_special_251 (by rw [← e_c1, f_MO_special_c1] <;> rfl)
            · have hp := hp.2 q161
              refine lv_aload_n hx hb d_MO_special_164 rfl (lv_at hl 3 rfl) ?_
              refine lv_iload hx hb d_MO_special_165 (lv_at hl 1 rfl) ?_
              refine lv_bipush (v := 48) hx hb d_MO_special_167 (by decide) ?_
              refine lv_icmp_ne (tgt := 176) hx hb d_MO_special_169 (by decide) (fun q169 => ?_) (fun q169 => ?_)
              · have hp := hp.2 q169
                refine lv_iload hx hb d_MO_special_176 (lv_at hl 1 rfl) ?_
                refine lv_bipush (v := 49) hx hb d_MO_special_178 (by decide) ?_
                refine lv_icmp_ne (tgt := 187) hx hb d_MO_special_180 (by decide) (fun q180 => ?_) (fun q180 => ?_)
                · have hp := hp.2 q180
                  refine lv_iload hx hb d_MO_special_187 (lv_at hl 1 rfl) ?_
                  refine lv_bipush (v := 50) hx hb d_MO_special_189 (by decide) ?_
                  refine lv_icmp_ne (tgt := 198) hx hb d_MO_special_191 (by decide) (fun q191 => ?_) (fun q191 => ?_)
                  · have hp := hp.2 q191
                    refine lv_iload hx hb d_MO_special_198 (lv_at hl 1 rfl) ?_
                    refine lv_bipush (v := 51) hx hb d_MO_special_200 (by decide) ?_
                    refine lv_icmp_ne (tgt := 209) hx hb d_MO_special_202 (by decide) (fun q202 => ?_) (fun q202 => ?_)
                    · have hp := hp.2 q202
                      refine lv_iload hx hb d_MO_special_209 (lv_at hl 1 rfl) ?_
                      refine lv_bipush (v := 52) hx hb d_MO_special_211 (by decide) ?_
                      refine lv_icmp_ne (tgt := 220) hx hb d_MO_special_213 (by decide) (fun q213 => ?_) (fun q213 => ?_)
                      · have hp := hp.2 q213
                        refine lv_iload hx hb d_MO_special_220 (lv_at hl 1 rfl) ?_
                        refine lv_bipush (v := 54) hx hb d_MO_special_222 (by decide) ?_
                        refine lv_icmp_ne (tgt := 232) hx hb d_MO_special_224 (by decide) (fun q224 => ?_) (fun q224 => ?_)
                        · have hp := hp.2 q224
                          refine lv_iconst (v := -1) hx hb d_MO_special_232 (by decide) ?_
                          exact J233 (-1 : Int32) _ _ _ w (lv_sub hl [5, 6] rfl) (by rw [← e0, f_MO_special, if_neg q28, if_neg q35, if_pos q89, if_pos q123, if_pos q143, if_neg q161, if_neg q169, if_neg q180, if_neg q191, if_neg q202, if_neg q213, if_neg q224]) hp
                        · have hp := hp.1 q224
                          refine lv_bipush (v := 6) hx hb d_MO_special_227 (by decide) ?_
                          refine lv_goto (tgt := 233) hx hb d_MO_special_229 (by decide) ?_
                          exact J233 (6 : Int32) _ _ _ w (lv_sub hl [5, 6] rfl) (by rw [← e0, f_MO_special, if_neg q28, if_neg q35, if_pos q89, if_pos q123, if_pos q143, if_neg q161, if_neg q169, if_neg q180, if_neg q191, if_neg q202, if_neg q213, if_pos q224]) hp
                      · have hp := hp.1 q213
                        refine lv_iconst (v := 4) hx hb d_MO_special_216 (by decide) ?_
                        refine lv_goto (tgt := 233) hx hb d_MO_special_217 (by decide) ?_
                        exact J233 (4 : Int32) _ _ _ w (lv_sub hl [5, 6] rfl) (by rw [← e0, f_MO_special, if_neg q28, if_neg q35, if_pos q89, if_pos q123, if_pos q143, if_neg q161, if_neg q169, if_neg q180, if_neg q191, if_neg q202, if_pos q213]) hp
                    · have hp := hp.1 q202
                      refine lv_iconst (v := 3) hx hb d_MO_special_205 (by decide) ?_
                      refine lv_goto (tgt := 233) hx hb d_MO_special_206 (by decide) ?_
                      exact J233 (3 : Int32) _ _ _ w (lv_sub hl [5, 6] rfl) (by rw [← e0, f_MO_special, if_neg q28, if_neg q35, if_pos q89, if_pos q123, if_pos q143, if_neg q161, if_neg q169, if_neg q180, if_neg q191, if_pos q202]) hp
                  · have hp := hp.1 q191
                    refine lv_iconst (v := 2) hx hb d_MO_special_194 (by decide) ?_
                    refine lv_goto (tgt := 233) hx hb d_MO_special_195 (by decide) ?_
                    exact J233 (2 : Int32) _ _ _ w (lv_sub hl [5, 6] rfl) (by rw [← e0, f_MO_special, if_neg q28, if_neg q35, if_pos q89, if_pos q123, if_pos q143, if_neg q161, if_neg q169, if_neg q180, if_pos q191]) hp
                · have hp := hp.1 q180
                  refine lv_iconst (v := 1) hx hb d_MO_special_183 (by decide) ?_
                  refine lv_goto (tgt := 233) hx hb d_MO_special_184 (by decide) ?_
                  exact J233 (1 : Int32) _ _ _ w (lv_sub hl [5, 6] rfl) (by rw [← e0, f_MO_special, if_neg q28, if_neg q35, if_pos q89, if_pos q123, if_pos q143, if_neg q161, if_neg q169, if_pos q180]) hp
              · have hp := hp.1 q169
                refine lv_iconst (v := 0) hx hb d_MO_special_172 (by decide) ?_
                refine lv_goto (tgt := 233) hx hb d_MO_special_173 (by decide) ?_
                exact J233 (0 : Int32) _ _ _ w (lv_sub hl [5, 6] rfl) (by rw [← e0, f_MO_special, if_neg q28, if_neg q35, if_pos q89, if_pos q123, if_pos q143, if_neg q161, if_pos q169]) hp
          · have hp := hp.2 q143
            refine lv_aload_n hx hb d_MO_special_146 rfl (lv_at hl 3 rfl) ?_
            refine lv_iload hx hb d_MO_special_147 (lv_at hl 1 rfl) ?_
            refine lv_iload_n hx hb d_MO_special_149 rfl (lv_at hl 5 rfl) ?_
            refine lv_iload_n hx hb d_MO_special_150 rfl (lv_at hl 6 rfl) ?_
            refine cVV (rest := []) hc w (c_MO_divides l E ad σ (a1 &&& (63 : Int32)) a2 a3) kv_MO_divides mw_1095 0 rfl rfl ⟨Nat.le_of_ble_eq_true rfl, Nat.le_of_ble_eq_true rfl⟩ hl.1 rfl (Nat.le_of_ble_eq_true rfl) ⟨Nat.zero_le _, Nat.zero_le _⟩ d_MO_special_151 (fun z151 H locs hs151 w => ?_)
            rw [hs151] at hp
            unfold P_MO_special_c2 at hp
            have e_c2 : zV (f_MO_special_c2 z151 a1 a2 a3 ) = Z := by rw [← e0, f_MO_special, if_neg q28, if_neg q35, if_pos q89, if_pos q123, if_neg q143, hs151]
            refine lv_goto (tgt := 251) hx hb d_MO_special_154 (by decide) ?_
            exact rt_v hc w d_MO_special_251 (by rw [← e_c2, f_MO_special_c2] <;> rfl)
        · have hp := hp.2 q123
          refine lv_aload_n hx hb d_MO_special_126 rfl (lv_at hl 3 rfl) ?_
          refine lv_iload hx hb d_MO_special_127 (lv_at hl 1 rfl) ?_
          refine lv_iload hx hb d_MO_special_129 (lv_at hl 2 rfl) ?_
          refine lv_iload_n hx hb d_MO_special_131 rfl (lv_at hl 5 rfl) ?_
          refine lv_iload_n hx hb d_MO_special_132 rfl (lv_at hl 6 rfl) ?_
          refine cVV (rest := []) hc w (c_MO_moves l E ad σ (a1 &&& (63 : Int32)) ((a1 >>> ((11 : Int32) &&& 31)) &&& (31 : Int32)) a2 a3 (bd31 _)) kv_MO_moves mw_1091 0 rfl rfl ⟨Nat.le_of_ble_eq_true rfl, Nat.le_of_ble_eq_true rfl⟩ hl.1 rfl (Nat.le_of_ble_eq_true rfl) ⟨Nat.zero_le _, Nat.zero_le _⟩ d_MO_special_133 (fun z133 H locs hs133 w => ?_)
          rw [hs133] at hp
          unfold P_MO_special_c3 at hp
          have e_c3 : zV (f_MO_special_c3 z133 a1 a2 a3 ) = Z := by rw [← e0, f_MO_special, if_neg q28, if_neg q35, if_pos q89, if_neg q123, hs133]
          refine lv_goto (tgt := 251) hx hb d_MO_special_136 (by decide) ?_
          exact rt_v hc w d_MO_special_251 (by rw [← e_c3, f_MO_special_c3] <;> rfl)
      · have hp := hp.2 q89
        refine lv_aload_n hx hb d_MO_special_92 rfl (lv_at hl 3 rfl) ?_
        refine lv_iload hx hb d_MO_special_93 (lv_at hl 1 rfl) ?_
        refine lv_iload hx hb d_MO_special_95 (lv_at hl 2 rfl) ?_
        refine lv_iload hx hb d_MO_special_97 (lv_at hl 1 rfl) ?_
        refine lv_iconst (v := 4) hx hb d_MO_special_99 (by decide) ?_
        refine lv_icmp_ge (tgt := 108) hx hb d_MO_special_100 (by decide) (fun q100 => ?_) (fun q100 => ?_)
        · have hp := hp.1 q100
          refine lv_iload_n hx hb d_MO_special_108 rfl (lv_at hl 5 rfl) ?_
          refine lv_bipush (v := 31) hx hb d_MO_special_109 (by decide) ?_
          refine lv_iand hx hb d_MO_special_111 ?_
          exact J112 (a1 &&& (63 : Int32)) ((a1 >>> ((11 : Int32) &&& 31)) &&& (31 : Int32)) (a2 &&& (31 : Int32)) _ _ _ w (lv_sub hl [6] rfl) (by rw [← e0, f_MO_special, if_neg q28, if_neg q35, if_neg q89, if_pos q100]) hp
        · have hp := hp.2 q100
          refine lv_iload hx hb d_MO_special_103 (lv_at hl 0 rfl) ?_
          refine lv_goto (tgt := 112) hx hb d_MO_special_105 (by decide) ?_
          exact J112 (a1 &&& (63 : Int32)) ((a1 >>> ((11 : Int32) &&& 31)) &&& (31 : Int32)) ((a1 >>> ((6 : Int32) &&& 31)) &&& (31 : Int32)) _ _ _ w (lv_sub hl [6] rfl) (by rw [← e0, f_MO_special, if_neg q28, if_neg q35, if_neg q89, if_neg q100]) hp
    · have hp := hp.1 q35
      exact J38 (a1 &&& (63 : Int32)) ((a1 >>> ((11 : Int32) &&& 31)) &&& (31 : Int32)) _ _ _ w (lv_sub hl [1, 2, 3, 5] rfl) (by rw [← e0, f_MO_special, if_neg q28, if_pos q35]) hp
