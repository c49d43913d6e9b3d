-- SR_read
def f_SR_read_38 (σ : XS) (a1 : Int32) (w38_0 : Int32) (w38_1 : Int32) : Int32 := w38_0 ||| w38_1
def f_SR_read (σ : XS) (a1 : Int32) : Int32 := if a1 = (13 : Int32) then (if (zb (x_timer σ)) = 0 then (f_SR_read_38 σ a1 ((x_values σ (Int32.toNatClampNeg (a1 &&& (31 : Int32)))) ||| ((x_lines σ) <<< ((10 : Int32) &&& 31))) (0 : Int32)) else (f_SR_read_38 σ a1 ((x_values σ (Int32.toNatClampNeg (a1 &&& (31 : Int32)))) ||| ((x_lines σ) <<< ((10 : Int32) &&& 31))) (32768 : Int32))) else (x_values σ (Int32.toNatClampNeg (a1 &&& (31 : Int32))))
theorem d_SR_read_0 : decode b_SR_read 0 = .ok (.aload_n 0, 1) := by decide +kernel
theorem d_SR_read_1 : decode b_SR_read 1 = .ok (.getfield 11, 3) := by decide +kernel
theorem d_SR_read_4 : decode b_SR_read 4 = .ok (.iload_n 1, 1) := by decide +kernel
theorem d_SR_read_5 : decode b_SR_read 5 = .ok (.bipush 31, 2) := by decide +kernel
theorem d_SR_read_7 : decode b_SR_read 7 = .ok (.iand, 1) := by decide +kernel
theorem d_SR_read_8 : decode b_SR_read 8 = .ok (.iaload, 1) := by decide +kernel
theorem d_SR_read_9 : decode b_SR_read 9 = .ok (.istore_n 2, 1) := by decide +kernel
theorem d_SR_read_10 : decode b_SR_read 10 = .ok (.iload_n 1, 1) := by decide +kernel
theorem d_SR_read_11 : decode b_SR_read 11 = .ok (.bipush 13, 2) := by decide +kernel
theorem d_SR_read_13 : decode b_SR_read 13 = .ok (.if_icmp .ne 29, 3) := by decide +kernel
theorem d_SR_read_16 : decode b_SR_read 16 = .ok (.iload_n 2, 1) := by decide +kernel
theorem d_SR_read_17 : decode b_SR_read 17 = .ok (.aload_n 0, 1) := by decide +kernel
theorem d_SR_read_18 : decode b_SR_read 18 = .ok (.getfield 16, 3) := by decide +kernel
theorem d_SR_read_21 : decode b_SR_read 21 = .ok (.bipush 10, 2) := by decide +kernel
theorem d_SR_read_23 : decode b_SR_read 23 = .ok (.ishl, 1) := by decide +kernel
theorem d_SR_read_24 : decode b_SR_read 24 = .ok (.ior, 1) := by decide +kernel
theorem d_SR_read_25 : decode b_SR_read 25 = .ok (.aload_n 0, 1) := by decide +kernel
theorem d_SR_read_26 : decode b_SR_read 26 = .ok (.getfield 20, 3) := by decide +kernel
theorem d_SR_read_29 : decode b_SR_read 29 = .ok (.ifCond .eq 8, 3) := by decide +kernel
theorem d_SR_read_32 : decode b_SR_read 32 = .ok (.ldc 24, 2) := by decide +kernel
theorem d_SR_read_34 : decode b_SR_read 34 = .ok (.goto 4, 3) := by decide +kernel
theorem d_SR_read_37 : decode b_SR_read 37 = .ok (.iconst 0, 1) := by decide +kernel
theorem d_SR_read_38 : decode b_SR_read 38 = .ok (.ior, 1) := by decide +kernel
theorem d_SR_read_39 : decode b_SR_read 39 = .ok (.goto 4, 3) := by decide +kernel
theorem d_SR_read_42 : decode b_SR_read 42 = .ok (.iload_n 2, 1) := by decide +kernel
theorem d_SR_read_43 : decode b_SR_read 43 = .ok (.ireturn, 1) := by decide +kernel
set_option maxHeartbeats 4000000 in
set_option maxRecDepth 100000 in
theorem c_SR_read (l : Launch) (E : Ev) (ad : Nat → Nat) (σ : XS) (a1 : Int32) : rC xCl l E (xW E ad) y_SR_read b_SR_read 3 (Option.some Jvm.ClassFile.FieldType.int) (rmo 0 0) [.ref (ad 2), .int a1] σ ((σ, some (Value.int (f_SR_read σ a1)))) := by
  refine rC.of (by decide) (Nat.le_of_ble_eq_true rfl) ?_
  intro p e s m below meth c A ls hc w hl
  generalize e0 : (σ, some (Value.int (f_SR_read σ a1))) = Z
  have hc : Cx xCl E A p s m ([.ref (ad 2), .int a1] : List Value).toArray meth c b_SR_read 3 (Option.some Jvm.ClassFile.FieldType.int) "PageMachine$SystemRegisters" := hc
  have hx := hc.1
  have hb := hc.2.1
  have ho := hc.2.2.2.2.2.1
  have hT := hc.2.2.2.2.2.2.1
  have hl : lv_has ls 3 [(0, .ref (ad 2)), (1, .int a1)] := hl
  have J38 : ∀ (w38_0 : Int32) (w38_1 : Int32) (H : Heap) (locs : List Loc) (ls : Array Slot), Wd xCl E A s.heap H locs (xW E ad σ) → lv_has ls 3 [] → (σ, some (Value.int (f_SR_read_38 σ a1 w38_0 w38_1))) = Z → W p l e (rmo 0 0) s m ([.ref (ad 2), .int a1] : List Value).toArray below meth c H locs 0 0 (MQ below (rQ xCl (xW E ad) E A Z) ([.ref (ad 2), .int a1] : List Value).toArray s 0 0 A) (F0 m 38 ls [.int w38_1, .int w38_0]) := by
    intro w38_0 w38_1 H locs ls w hl e38
    refine lv_ior hx hb d_SR_read_38 ?_
    refine lv_goto (tgt := 43) hx hb d_SR_read_39 (by decide) ?_
    exact rt_i hc w d_SR_read_43 (by rw [← e38, f_SR_read_38] <;> rfl)
  refine lv_aload_n hx hb d_SR_read_0 rfl (lv_at hl 0 rfl) ?_
  refine g_SR_values hc w mw_47 d_SR_read_1 ?_
  refine lv_iload_n hx hb d_SR_read_4 rfl (lv_at hl 1 rfl) ?_
  refine lv_bipush (v := 31) hx hb d_SR_read_5 (by decide) ?_
  refine lv_iand hx hb d_SR_read_7 ?_
  refine a_SR_values hc w (bd31 _) d_SR_read_8 ?_
  refine lv_istore_n (lv' := [(2, .int (x_values σ (Int32.toNatClampNeg (a1 &&& (31 : Int32))))), (0, .ref (ad 2)), (1, .int a1)]) hx hb d_SR_read_9 rfl hl (by decide) rfl (fun ls hl => ?_)
  refine lv_iload_n hx hb d_SR_read_10 rfl (lv_at hl 2 rfl) ?_
  refine lv_bipush (v := 13) hx hb d_SR_read_11 (by decide) ?_
  refine lv_icmp_ne (tgt := 42) hx hb d_SR_read_13 (by decide) (fun q13 => ?_) (fun q13 => ?_)
  · refine lv_iload_n hx hb d_SR_read_42 rfl (lv_at hl 0 rfl) ?_
    exact rt_i hc w d_SR_read_43 (by rw [← e0, f_SR_read, if_neg q13] <;> rfl)
  · refine lv_iload_n hx hb d_SR_read_16 rfl (lv_at hl 0 rfl) ?_
    refine lv_aload_n hx hb d_SR_read_17 rfl (lv_at hl 1 rfl) ?_
    refine g_SR_lines hc w mw_48 d_SR_read_18 ?_
    refine lv_bipush (v := 10) hx hb d_SR_read_21 (by decide) ?_
    refine lv_ishl hx hb d_SR_read_23 ?_
    refine lv_ior hx hb d_SR_read_24 ?_
    refine lv_aload_n hx hb d_SR_read_25 rfl (lv_at hl 1 rfl) ?_
    refine g_SR_timerIsDue hc w mw_49 d_SR_read_26 ?_
    refine lv_if_eq (tgt := 37) hx hb d_SR_read_29 (by decide) (fun q29 => ?_) (fun q29 => ?_)
    · refine lv_iconst (v := 0) hx hb d_SR_read_37 (by decide) ?_
      exact J38 ((x_values σ (Int32.toNatClampNeg (a1 &&& (31 : Int32)))) ||| ((x_lines σ) <<< ((10 : Int32) &&& 31))) (0 : Int32) _ _ _ w (lv_sub hl [] rfl) (by rw [← e0, f_SR_read, if_pos q13, if_pos q29])
    · refine lv_ldc (v := 32768) hx hb ho (hT _ mw_419) d_SR_read_32 ?_
      refine lv_goto (tgt := 38) hx hb d_SR_read_34 (by decide) ?_
      exact J38 ((x_values σ (Int32.toNatClampNeg (a1 &&& (31 : Int32)))) ||| ((x_lines σ) <<< ((10 : Int32) &&& 31))) (32768 : Int32) _ _ _ w (lv_sub hl [] rfl) (by rw [← e0, f_SR_read, if_pos q13, if_neg q29])
-- SR_write
def f_SR_write_c4 (σ48 : XS) (a1 : Int32) (a2 : Int32)  : XS := σ48
def f_SR_write_c3 (σ65 : XS) (a1 : Int32) (a2 : Int32)  : XS := σ65
def f_SR_write_c2 (σ77 : XS) (a1 : Int32) (a2 : Int32)  : XS := σ77
def f_SR_write_c1 (σ33 : XS) (a1 : Int32) (a2 : Int32) (u1_4 : Int32) (u1_3 : Int32) : XS := if u1_3 = 0 then (f_SR_write_c4 (xs_values σ33 (upd (x_values σ33) (Int32.toNatClampNeg (0 : Int32)) ((x_values σ33 (Int32.toNatClampNeg (0 : Int32))) &&& u1_4))) a1 a2 ) else (if u1_3 = (6 : Int32) then (f_SR_write_c3 (xs_values σ33 (upd (x_values σ33) (Int32.toNatClampNeg (1 : Int32)) (31 : Int32))) a1 a2 ) else (if u1_3 = (11 : Int32) then (f_SR_write_c2 (xs_timer σ33 false) a1 a2 ) else (σ33)))
def f_SR_write (σ : XS) (a1 : Int32) (a2 : Int32) : XS := f_SR_write_c1 (xs_values σ (upd (x_values σ) (Int32.toNatClampNeg (a1 &&& (31 : Int32))) (((x_values σ (Int32.toNatClampNeg (a1 &&& (31 : Int32)))) &&& ((wbI (Int32.toNatClampNeg (a1 &&& (31 : Int32)))) ^^^ (-1 : Int32))) ||| (a2 &&& (wbI (Int32.toNatClampNeg (a1 &&& (31 : Int32)))))))) a1 a2 (wbI (Int32.toNatClampNeg (a1 &&& (31 : Int32)))) (a1 &&& (31 : Int32))
theorem d_SR_write_0 : decode b_SR_write 0 = .ok (.iload_n 1, 1) := by decide +kernel
theorem d_SR_write_1 : decode b_SR_write 1 = .ok (.bipush 31, 2) := by decide +kernel
theorem d_SR_write_3 : decode b_SR_write 3 = .ok (.iand, 1) := by decide +kernel
theorem d_SR_write_4 : decode b_SR_write 4 = .ok (.istore_n 3, 1) := by decide +kernel
theorem d_SR_write_5 : decode b_SR_write 5 = .ok (.getstatic 25, 3) := by decide +kernel
theorem d_SR_write_8 : decode b_SR_write 8 = .ok (.iload_n 3, 1) := by decide +kernel
theorem d_SR_write_9 : decode b_SR_write 9 = .ok (.iaload, 1) := by decide +kernel
theorem d_SR_write_10 : decode b_SR_write 10 = .ok (.istore 4, 2) := by decide +kernel
theorem d_SR_write_12 : decode b_SR_write 12 = .ok (.aload_n 0, 1) := by decide +kernel
theorem d_SR_write_13 : decode b_SR_write 13 = .ok (.getfield 11, 3) := by decide +kernel
theorem d_SR_write_16 : decode b_SR_write 16 = .ok (.iload_n 3, 1) := by decide +kernel
theorem d_SR_write_17 : decode b_SR_write 17 = .ok (.aload_n 0, 1) := by decide +kernel
theorem d_SR_write_18 : decode b_SR_write 18 = .ok (.getfield 11, 3) := by decide +kernel
theorem d_SR_write_21 : decode b_SR_write 21 = .ok (.iload_n 3, 1) := by decide +kernel
theorem d_SR_write_22 : decode b_SR_write 22 = .ok (.iaload, 1) := by decide +kernel
theorem d_SR_write_23 : decode b_SR_write 23 = .ok (.iload 4, 2) := by decide +kernel
theorem d_SR_write_25 : decode b_SR_write 25 = .ok (.iconst (-1), 1) := by decide +kernel
theorem d_SR_write_26 : decode b_SR_write 26 = .ok (.ixor, 1) := by decide +kernel
theorem d_SR_write_27 : decode b_SR_write 27 = .ok (.iand, 1) := by decide +kernel
theorem d_SR_write_28 : decode b_SR_write 28 = .ok (.iload_n 2, 1) := by decide +kernel
theorem d_SR_write_29 : decode b_SR_write 29 = .ok (.iload 4, 2) := by decide +kernel
theorem d_SR_write_31 : decode b_SR_write 31 = .ok (.iand, 1) := by decide +kernel
theorem d_SR_write_32 : decode b_SR_write 32 = .ok (.ior, 1) := by decide +kernel
theorem d_SR_write_33 : decode b_SR_write 33 = .ok (.iastore, 1) := by decide +kernel
theorem d_SR_write_34 : decode b_SR_write 34 = .ok (.iload_n 3, 1) := by decide +kernel
theorem d_SR_write_35 : decode b_SR_write 35 = .ok (.ifCond .ne 17, 3) := by decide +kernel
theorem d_SR_write_38 : decode b_SR_write 38 = .ok (.aload_n 0, 1) := by decide +kernel
theorem d_SR_write_39 : decode b_SR_write 39 = .ok (.getfield 11, 3) := by decide +kernel
theorem d_SR_write_42 : decode b_SR_write 42 = .ok (.iconst 0, 1) := by decide +kernel
theorem d_SR_write_43 : decode b_SR_write 43 = .ok (.dup2, 1) := by decide +kernel
theorem d_SR_write_44 : decode b_SR_write 44 = .ok (.iaload, 1) := by decide +kernel
theorem d_SR_write_45 : decode b_SR_write 45 = .ok (.iload 4, 2) := by decide +kernel
theorem d_SR_write_47 : decode b_SR_write 47 = .ok (.iand, 1) := by decide +kernel
theorem d_SR_write_48 : decode b_SR_write 48 = .ok (.iastore, 1) := by decide +kernel
theorem d_SR_write_49 : decode b_SR_write 49 = .ok (.goto 31, 3) := by decide +kernel
theorem d_SR_write_52 : decode b_SR_write 52 = .ok (.iload_n 3, 1) := by decide +kernel
theorem d_SR_write_53 : decode b_SR_write 53 = .ok (.bipush 6, 2) := by decide +kernel
theorem d_SR_write_55 : decode b_SR_write 55 = .ok (.if_icmp .ne 14, 3) := by decide +kernel
theorem d_SR_write_58 : decode b_SR_write 58 = .ok (.aload_n 0, 1) := by decide +kernel
theorem d_SR_write_59 : decode b_SR_write 59 = .ok (.getfield 11, 3) := by decide +kernel
theorem d_SR_write_62 : decode b_SR_write 62 = .ok (.iconst 1, 1) := by decide +kernel
theorem d_SR_write_63 : decode b_SR_write 63 = .ok (.bipush 31, 2) := by decide +kernel
theorem d_SR_write_65 : decode b_SR_write 65 = .ok (.iastore, 1) := by decide +kernel
theorem d_SR_write_66 : decode b_SR_write 66 = .ok (.goto 14, 3) := by decide +kernel
theorem d_SR_write_69 : decode b_SR_write 69 = .ok (.iload_n 3, 1) := by decide +kernel
theorem d_SR_write_70 : decode b_SR_write 70 = .ok (.bipush 11, 2) := by decide +kernel
theorem d_SR_write_72 : decode b_SR_write 72 = .ok (.if_icmp .ne 8, 3) := by decide +kernel
theorem d_SR_write_75 : decode b_SR_write 75 = .ok (.aload_n 0, 1) := by decide +kernel
theorem d_SR_write_76 : decode b_SR_write 76 = .ok (.iconst 0, 1) := by decide +kernel
theorem d_SR_write_77 : decode b_SR_write 77 = .ok (.putfield 20, 3) := by decide +kernel
theorem d_SR_write_80 : decode b_SR_write 80 = .ok (.return_, 1) := by decide +kernel
set_option maxHeartbeats 4000000 in
set_option maxRecDepth 100000 in
theorem c_SR_write (l : Launch) (E : Ev) (ad : Nat → Nat) (σ : XS) (a1 : Int32) (a2 : Int32) : rC xCl l E (xW E ad) y_SR_write b_SR_write 5 (Option.none : Option Jvm.ClassFile.FieldType) (rmo 0 0) [.ref (ad 2), .int a1, .int a2] σ (zV (f_SR_write σ a1 a2)) := by
  refine rC.of (by decide) (Nat.le_of_ble_eq_true rfl) ?_
  intro p e s m below meth c A ls hc w hl
  generalize e0 : zV (f_SR_write σ a1 a2) = Z
  have hc : Cx xCl E A p s m ([.ref (ad 2), .int a1, .int a2] : List Value).toArray meth c b_SR_write 5 (Option.none : Option Jvm.ClassFile.FieldType) "PageMachine$SystemRegisters" := hc
  have hx := hc.1
  have hb := hc.2.1
  have ho := hc.2.2.2.2.2.1
  have hT := hc.2.2.2.2.2.2.1
  have hl : lv_has ls 5 [(0, .ref (ad 2)), (1, .int a1), (2, .int a2)] := hl
  refine lv_iload_n hx hb d_SR_write_0 rfl (lv_at hl 1 rfl) ?_
  refine lv_bipush (v := 31) hx hb d_SR_write_1 (by decide) ?_
  refine lv_iand hx hb d_SR_write_3 ?_
  refine lv_istore_n (lv' := [(3, .int (a1 &&& (31 : Int32))), (0, .ref (ad 2)), (1, .int a1), (2, .int a2)]) hx hb d_SR_write_4 rfl hl (by decide) rfl (fun ls hl => ?_)
  refine va_gets hx hb hc.2.2.2.2.2.2.2.2.1.1 w.2.2.1 ho (hT _ mw_398) (fun _ h => h) d_SR_write_5 ?_
  refine lv_iload_n hx hb d_SR_write_8 rfl (lv_at hl 0 rfl) ?_
  refine va_ti hx hb hc.2.2.2.2.2.2.2.2.1.2 w.2.2.1 (bd31 _) rfl d_SR_write_9 ?_
  refine lv_istore (lv' := [(4, .int (wbI (Int32.toNatClampNeg (a1 &&& (31 : Int32))))), (3, .int (a1 &&& (31 : Int32))), (0, .ref (ad 2)), (1, .int a1), (2, .int a2)]) hx hb d_SR_write_10 hl (by decide) rfl (fun ls hl => ?_)
  refine lv_aload_n hx hb d_SR_write_12 rfl (lv_at hl 2 rfl) ?_
  refine g_SR_values hc w mw_47 d_SR_write_13 ?_
  refine lv_iload_n hx hb d_SR_write_16 rfl (lv_at hl 1 rfl) ?_
  refine lv_aload_n hx hb d_SR_write_17 rfl (lv_at hl 2 rfl) ?_
  refine g_SR_values hc w mw_47 d_SR_write_18 ?_
  refine lv_iload_n hx hb d_SR_write_21 rfl (lv_at hl 1 rfl) ?_
  refine a_SR_values hc w (bd31 _) d_SR_write_22 ?_
  refine lv_iload hx hb d_SR_write_23 (lv_at hl 0 rfl) ?_
  refine lv_iconst (v := -1) hx hb d_SR_write_25 (by decide) ?_
  refine lv_ixor hx hb d_SR_write_26 ?_
  refine lv_iand hx hb d_SR_write_27 ?_
  refine lv_iload_n hx hb d_SR_write_28 rfl (lv_at hl 4 rfl) ?_
  refine lv_iload hx hb d_SR_write_29 (lv_at hl 0 rfl) ?_
  refine lv_iand hx hb d_SR_write_31 ?_
  refine lv_ior hx hb d_SR_write_32 ?_
  refine s_SR_values hc w (bd31 _) d_SR_write_33 (fun σ33 H locs hs33 w => ?_)
  generalize hv_u1_4 : wbI (Int32.toNatClampNeg (a1 &&& (31 : Int32))) = u1_4 at hl ⊢
  generalize hv_u1_3 : a1 &&& (31 : Int32) = u1_3 at hl ⊢
  have e_c1 : zV (f_SR_write_c1 σ33 a1 a2 u1_4 u1_3) = Z := by rw [← e0, f_SR_write, hs33, hv_u1_4, hv_u1_3]
  refine lv_iload_n hx hb d_SR_write_34 rfl (lv_at hl 1 rfl) ?_
  refine lv_if_ne (tgt := 52) hx hb d_SR_write_35 (by decide) (fun q35 => ?_) (fun q35 => ?_)
  · refine lv_iload_n hx hb d_SR_write_52 rfl (lv_at hl 1 rfl) ?_
    refine lv_bipush (v := 6) hx hb d_SR_write_53 (by decide) ?_
    refine lv_icmp_ne (tgt := 69) hx hb d_SR_write_55 (by decide) (fun q55 => ?_) (fun q55 => ?_)
    · refine lv_iload_n hx hb d_SR_write_69 rfl (lv_at hl 1 rfl) ?_
      refine lv_bipush (v := 11) hx hb d_SR_write_70 (by decide) ?_
      refine lv_icmp_ne (tgt := 80) hx hb d_SR_write_72 (by decide) (fun q72 => ?_) (fun q72 => ?_)
      · exact rt_v hc w d_SR_write_80 (by rw [← e_c1, f_SR_write_c1, if_neg q35, if_neg q55, if_neg q72] <;> rfl)
      · refine lv_aload_n hx hb d_SR_write_75 rfl (lv_at hl 2 rfl) ?_
        refine lv_iconst (v := 0) hx hb d_SR_write_76 (by decide) ?_
        refine p_SR_timerIsDue (v := false) hc w mw_49 d_SR_write_77 (fun σ77 H locs hs77 w => ?_)
        have e_c2 : zV (f_SR_write_c2 σ77 a1 a2 ) = Z := by rw [← e_c1, f_SR_write_c1, if_neg q35, if_neg q55, if_pos q72, hs77]
        exact rt_v hc w d_SR_write_80 (by rw [← e_c2, f_SR_write_c2] <;> rfl)
    · refine lv_aload_n hx hb d_SR_write_58 rfl (lv_at hl 2 rfl) ?_
      refine g_SR_values hc w mw_47 d_SR_write_59 ?_
      refine lv_iconst (v := 1) hx hb d_SR_write_62 (by decide) ?_
      refine lv_bipush (v := 31) hx hb d_SR_write_63 (by decide) ?_
      refine s_SR_values hc w (by unfold vp_in; decide) d_SR_write_65 (fun σ65 H locs hs65 w => ?_)
      have e_c3 : zV (f_SR_write_c3 σ65 a1 a2 ) = Z := by rw [← e_c1, f_SR_write_c1, if_neg q35, if_pos q55, hs65]
      refine lv_goto (tgt := 80) hx hb d_SR_write_66 (by decide) ?_
      exact rt_v hc w d_SR_write_80 (by rw [← e_c3, f_SR_write_c3] <;> rfl)
  · refine lv_aload_n hx hb d_SR_write_38 rfl (lv_at hl 2 rfl) ?_
    refine g_SR_values hc w mw_47 d_SR_write_39 ?_
    refine lv_iconst (v := 0) hx hb d_SR_write_42 (by decide) ?_
    refine lv_dup2_11 hx hb d_SR_write_43 rfl rfl ?_
    refine a_SR_values hc w (by unfold vp_in; decide) d_SR_write_44 ?_
    refine lv_iload hx hb d_SR_write_45 (lv_at hl 0 rfl) ?_
    refine lv_iand hx hb d_SR_write_47 ?_
    refine s_SR_values hc w (by unfold vp_in; decide) d_SR_write_48 (fun σ48 H locs hs48 w => ?_)
    have e_c4 : zV (f_SR_write_c4 σ48 a1 a2 ) = Z := by rw [← e_c1, f_SR_write_c1, if_pos q35, hs48]
    refine lv_goto (tgt := 80) hx hb d_SR_write_49 (by decide) ?_
    exact rt_v hc w d_SR_write_80 (by rw [← e_c4, f_SR_write_c4] <;> rfl)
-- SR_switchLine
def f_SR_switchLine_c1 (σ42 : XS) (a1 : Int32) (a2 : Bool) (v42_4 : Bool) : XS × Bool := (σ42, v42_4)
def f_SR_switchLine_42 (σ : XS) (a1 : Int32) (a2 : Bool) (v42_4 : Bool) (w42_1 : Int32) : XS × Bool := f_SR_switchLine_c1 (xs_lines σ w42_1) a1 a2 v42_4
def f_SR_switchLine_18 (σ : XS) (a1 : Int32) (a2 : Bool) (v18_3 : Int32) (w18_0 : Bool) : XS × Bool := if (zb a2) = 0 then (f_SR_switchLine_42 σ a1 a2 w18_0 ((x_lines σ) &&& (v18_3 ^^^ (-1 : Int32)))) else (f_SR_switchLine_42 σ a1 a2 w18_0 ((x_lines σ) ||| v18_3))
def f_SR_switchLine (σ : XS) (a1 : Int32) (a2 : Bool) : XS × Bool := if ((x_lines σ) &&& ((1 : Int32) <<< (a1 &&& 31))) = 0 then (f_SR_switchLine_18 σ a1 a2 ((1 : Int32) <<< (a1 &&& 31)) false) else (f_SR_switchLine_18 σ a1 a2 ((1 : Int32) <<< (a1 &&& 31)) true)
theorem d_SR_switchLine_0 : decode b_SR_switchLine 0 = .ok (.iconst 1, 1) := by decide +kernel
theorem d_SR_switchLine_1 : decode b_SR_switchLine 1 = .ok (.iload_n 1, 1) := by decide +kernel
theorem d_SR_switchLine_2 : decode b_SR_switchLine 2 = .ok (.ishl, 1) := by decide +kernel
theorem d_SR_switchLine_3 : decode b_SR_switchLine 3 = .ok (.istore_n 3, 1) := by decide +kernel
theorem d_SR_switchLine_4 : decode b_SR_switchLine 4 = .ok (.aload_n 0, 1) := by decide +kernel
theorem d_SR_switchLine_5 : decode b_SR_switchLine 5 = .ok (.getfield 16, 3) := by decide +kernel
theorem d_SR_switchLine_8 : decode b_SR_switchLine 8 = .ok (.iload_n 3, 1) := by decide +kernel
theorem d_SR_switchLine_9 : decode b_SR_switchLine 9 = .ok (.iand, 1) := by decide +kernel
theorem d_SR_switchLine_10 : decode b_SR_switchLine 10 = .ok (.ifCond .eq 7, 3) := by decide +kernel
theorem d_SR_switchLine_13 : decode b_SR_switchLine 13 = .ok (.iconst 1, 1) := by decide +kernel
theorem d_SR_switchLine_14 : decode b_SR_switchLine 14 = .ok (.goto 4, 3) := by decide +kernel
theorem d_SR_switchLine_17 : decode b_SR_switchLine 17 = .ok (.iconst 0, 1) := by decide +kernel
theorem d_SR_switchLine_18 : decode b_SR_switchLine 18 = .ok (.istore 4, 2) := by decide +kernel
theorem d_SR_switchLine_20 : decode b_SR_switchLine 20 = .ok (.aload_n 0, 1) := by decide +kernel
theorem d_SR_switchLine_21 : decode b_SR_switchLine 21 = .ok (.iload_n 2, 1) := by decide +kernel
theorem d_SR_switchLine_22 : decode b_SR_switchLine 22 = .ok (.ifCond .eq 12, 3) := by decide +kernel
theorem d_SR_switchLine_25 : decode b_SR_switchLine 25 = .ok (.aload_n 0, 1) := by decide +kernel
theorem d_SR_switchLine_26 : decode b_SR_switchLine 26 = .ok (.getfield 16, 3) := by decide +kernel
theorem d_SR_switchLine_29 : decode b_SR_switchLine 29 = .ok (.iload_n 3, 1) := by decide +kernel
theorem d_SR_switchLine_30 : decode b_SR_switchLine 30 = .ok (.ior, 1) := by decide +kernel
theorem d_SR_switchLine_31 : decode b_SR_switchLine 31 = .ok (.goto 11, 3) := by decide +kernel
theorem d_SR_switchLine_34 : decode b_SR_switchLine 34 = .ok (.aload_n 0, 1) := by decide +kernel
theorem d_SR_switchLine_35 : decode b_SR_switchLine 35 = .ok (.getfield 16, 3) := by decide +kernel
theorem d_SR_switchLine_38 : decode b_SR_switchLine 38 = .ok (.iload_n 3, 1) := by decide +kernel
theorem d_SR_switchLine_39 : decode b_SR_switchLine 39 = .ok (.iconst (-1), 1) := by decide +kernel
theorem d_SR_switchLine_40 : decode b_SR_switchLine 40 = .ok (.ixor, 1) := by decide +kernel
theorem d_SR_switchLine_41 : decode b_SR_switchLine 41 = .ok (.iand, 1) := by decide +kernel
theorem d_SR_switchLine_42 : decode b_SR_switchLine 42 = .ok (.putfield 16, 3) := by decide +kernel
theorem d_SR_switchLine_45 : decode b_SR_switchLine 45 = .ok (.iload 4, 2) := by decide +kernel
theorem d_SR_switchLine_47 : decode b_SR_switchLine 47 = .ok (.ireturn, 1) := by decide +kernel
set_option maxHeartbeats 4000000 in
set_option maxRecDepth 100000 in
theorem c_SR_switchLine (l : Launch) (E : Ev) (ad : Nat → Nat) (σ : XS) (a1 : Int32) (a2 : Bool) : rC xCl l E (xW E ad) y_SR_switchLine b_SR_switchLine 5 (Option.some Jvm.ClassFile.FieldType.boolean) (rmo 0 0) [.ref (ad 2), .int a1, .int (zb a2)] σ (zZ (f_SR_switchLine σ a1 a2)) := by
  refine rC.of (by decide) (Nat.le_of_ble_eq_true rfl) ?_
  intro p e s m below meth c A ls hc w hl
  generalize e0 : zZ (f_SR_switchLine σ a1 a2) = Z
  have hc : Cx xCl E A p s m ([.ref (ad 2), .int a1, .int (zb a2)] : List Value).toArray meth c b_SR_switchLine 5 (Option.some Jvm.ClassFile.FieldType.boolean) "PageMachine$SystemRegisters" := hc
  have hx := hc.1
  have hb := hc.2.1
  have ho := hc.2.2.2.2.2.1
  have hT := hc.2.2.2.2.2.2.1
  have hl : lv_has ls 5 [(0, .ref (ad 2)), (1, .int a1), (2, .int (zb a2))] := hl
  have J42 : ∀ (v42_4 : Bool) (w42_1 : Int32) (H : Heap) (locs : List Loc) (ls : Array Slot), Wd xCl E A s.heap H locs (xW E ad σ) → lv_has ls 5 [(4, .int (zb v42_4))] → zZ (f_SR_switchLine_42 σ a1 a2 v42_4 w42_1) = Z → W p l e (rmo 0 0) s m ([.ref (ad 2), .int a1, .int (zb a2)] : List Value).toArray below meth c H locs 0 0 (MQ below (rQ xCl (xW E ad) E A Z) ([.ref (ad 2), .int a1, .int (zb a2)] : List Value).toArray s 0 0 A) (F0 m 42 ls [.int w42_1, .ref (ad 2)]) := by
    intro v42_4 w42_1 H locs ls w hl e42
    refine p_SR_lines hc w mw_48 d_SR_switchLine_42 (fun σ42 H locs hs42 w => ?_)
    have e_c1 : zZ (f_SR_switchLine_c1 σ42 a1 a2 v42_4) = Z := by rw [← e42, f_SR_switchLine_42, hs42]
    refine lv_iload hx hb d_SR_switchLine_45 (lv_at hl 0 rfl) ?_
    exact rt_z (v := v42_4) hc w d_SR_switchLine_47 rfl (by rw [← e_c1, f_SR_switchLine_c1] <;> rfl)
  have J18 : ∀ (v18_3 : Int32) (w18_0 : Bool) (H : Heap) (locs : List Loc) (ls : Array Slot), Wd xCl E A s.heap H locs (xW E ad σ) → lv_has ls 5 [(3, .int v18_3), (0, .ref (ad 2)), (2, .int (zb a2))] → zZ (f_SR_switchLine_18 σ a1 a2 v18_3 w18_0) = Z → W p l e (rmo 0 0) s m ([.ref (ad 2), .int a1, .int (zb a2)] : List Value).toArray below meth c H locs 0 0 (MQ below (rQ xCl (xW E ad) E A Z) ([.ref (ad 2), .int a1, .int (zb a2)] : List Value).toArray s 0 0 A) (F0 m 18 ls [.int (zb w18_0)]) := by
    intro v18_3 w18_0 H locs ls w hl e18
    refine lv_istore (lv' := [(4, .int (zb w18_0)), (3, .int v18_3), (0, .ref (ad 2)), (2, .int (zb a2))]) hx hb d_SR_switchLine_18 hl (by decide) rfl (fun ls hl => ?_)
    refine lv_aload_n hx hb d_SR_switchLine_20 rfl (lv_at hl 2 rfl) ?_
    refine lv_iload_n hx hb d_SR_switchLine_21 rfl (lv_at hl 3 rfl) ?_
    refine lv_if_eq (tgt := 34) hx hb d_SR_switchLine_22 (by decide) (fun q22 => ?_) (fun q22 => ?_)
    · refine lv_aload_n hx hb d_SR_switchLine_34 rfl (lv_at hl 2 rfl) ?_
      refine g_SR_lines hc w mw_48 d_SR_switchLine_35 ?_
      refine lv_iload_n hx hb d_SR_switchLine_38 rfl (lv_at hl 1 rfl) ?_
      refine lv_iconst (v := -1) hx hb d_SR_switchLine_39 (by decide) ?_
      refine lv_ixor hx hb d_SR_switchLine_40 ?_
      refine lv_iand hx hb d_SR_switchLine_41 ?_
      exact J42 w18_0 ((x_lines σ) &&& (v18_3 ^^^ (-1 : Int32))) _ _ _ w (lv_sub hl [0] rfl) (by rw [← e18, f_SR_switchLine_18, if_pos q22])
    · refine lv_aload_n hx hb d_SR_switchLine_25 rfl (lv_at hl 2 rfl) ?_
      refine g_SR_lines hc w mw_48 d_SR_switchLine_26 ?_
      refine lv_iload_n hx hb d_SR_switchLine_29 rfl (lv_at hl 1 rfl) ?_
      refine lv_ior hx hb d_SR_switchLine_30 ?_
      refine lv_goto (tgt := 42) hx hb d_SR_switchLine_31 (by decide) ?_
      exact J42 w18_0 ((x_lines σ) ||| v18_3) _ _ _ w (lv_sub hl [0] rfl) (by rw [← e18, f_SR_switchLine_18, if_neg q22])
  refine lv_iconst (v := 1) hx hb d_SR_switchLine_0 (by decide) ?_
  refine lv_iload_n hx hb d_SR_switchLine_1 rfl (lv_at hl 1 rfl) ?_
  refine lv_ishl hx hb d_SR_switchLine_2 ?_
  refine lv_istore_n (lv' := [(3, .int ((1 : Int32) <<< (a1 &&& 31))), (0, .ref (ad 2)), (1, .int a1), (2, .int (zb a2))]) hx hb d_SR_switchLine_3 rfl hl (by decide) rfl (fun ls hl => ?_)
  refine lv_aload_n hx hb d_SR_switchLine_4 rfl (lv_at hl 1 rfl) ?_
  refine g_SR_lines hc w mw_48 d_SR_switchLine_5 ?_
  refine lv_iload_n hx hb d_SR_switchLine_8 rfl (lv_at hl 0 rfl) ?_
  refine lv_iand hx hb d_SR_switchLine_9 ?_
  refine lv_if_eq (tgt := 17) hx hb d_SR_switchLine_10 (by decide) (fun q10 => ?_) (fun q10 => ?_)
  · refine lv_iconst (v := 0) hx hb d_SR_switchLine_17 (by decide) ?_
    exact J18 ((1 : Int32) <<< (a1 &&& 31)) false _ _ _ w (lv_sub hl [0, 1, 3] rfl) (by rw [← e0, f_SR_switchLine, if_pos q10])
  · refine lv_iconst (v := 1) hx hb d_SR_switchLine_13 (by decide) ?_
    refine lv_goto (tgt := 18) hx hb d_SR_switchLine_14 (by decide) ?_
    exact J18 ((1 : Int32) <<< (a1 &&& 31)) true _ _ _ w (lv_sub hl [0, 1, 3] rfl) (by rw [← e0, f_SR_switchLine, if_neg q10])
-- SR_tick
def f_SR_tick_c2 (σ30 : XS)   : XS := σ30
def f_SR_tick_c1 (σ10 : XS)   : XS := if (x_values σ10 (Int32.toNatClampNeg (9 : Int32))) = (x_values σ10 (Int32.toNatClampNeg (11 : Int32))) then (f_SR_tick_c2 (xs_timer σ10 true)  ) else (σ10)
def f_SR_tick (σ : XS) : XS := f_SR_tick_c1 (xs_values σ (upd (x_values σ) (Int32.toNatClampNeg (9 : Int32)) ((x_values σ (Int32.toNatClampNeg (9 : Int32))) + (1 : Int32))))  
theorem d_SR_tick_0 : decode b_SR_tick 0 = .ok (.aload_n 0, 1) := by decide +kernel
theorem d_SR_tick_1 : decode b_SR_tick 1 = .ok (.getfield 11, 3) := by decide +kernel
theorem d_SR_tick_4 : decode b_SR_tick 4 = .ok (.bipush 9, 2) := by decide +kernel
theorem d_SR_tick_6 : decode b_SR_tick 6 = .ok (.dup2, 1) := by decide +kernel
theorem d_SR_tick_7 : decode b_SR_tick 7 = .ok (.iaload, 1) := by decide +kernel
theorem d_SR_tick_8 : decode b_SR_tick 8 = .ok (.iconst 1, 1) := by decide +kernel
theorem d_SR_tick_9 : decode b_SR_tick 9 = .ok (.iadd, 1) := by decide +kernel
theorem d_SR_tick_10 : decode b_SR_tick 10 = .ok (.iastore, 1) := by decide +kernel
theorem d_SR_tick_11 : decode b_SR_tick 11 = .ok (.aload_n 0, 1) := by decide +kernel
theorem d_SR_tick_12 : decode b_SR_tick 12 = .ok (.getfield 11, 3) := by decide +kernel
theorem d_SR_tick_15 : decode b_SR_tick 15 = .ok (.bipush 9, 2) := by decide +kernel
theorem d_SR_tick_17 : decode b_SR_tick 17 = .ok (.iaload, 1) := by decide +kernel
theorem d_SR_tick_18 : decode b_SR_tick 18 = .ok (.aload_n 0, 1) := by decide +kernel
theorem d_SR_tick_19 : decode b_SR_tick 19 = .ok (.getfield 11, 3) := by decide +kernel
theorem d_SR_tick_22 : decode b_SR_tick 22 = .ok (.bipush 11, 2) := by decide +kernel
theorem d_SR_tick_24 : decode b_SR_tick 24 = .ok (.iaload, 1) := by decide +kernel
theorem d_SR_tick_25 : decode b_SR_tick 25 = .ok (.if_icmp .ne 8, 3) := by decide +kernel
theorem d_SR_tick_28 : decode b_SR_tick 28 = .ok (.aload_n 0, 1) := by decide +kernel
theorem d_SR_tick_29 : decode b_SR_tick 29 = .ok (.iconst 1, 1) := by decide +kernel
theorem d_SR_tick_30 : decode b_SR_tick 30 = .ok (.putfield 20, 3) := by decide +kernel
theorem d_SR_tick_33 : decode b_SR_tick 33 = .ok (.return_, 1) := by decide +kernel
set_option maxHeartbeats 4000000 in
set_option maxRecDepth 100000 in
theorem c_SR_tick (l : Launch) (E : Ev) (ad : Nat → Nat) (σ : XS) : rC xCl l E (xW E ad) y_SR_tick b_SR_tick 1 (Option.none : Option Jvm.ClassFile.FieldType) (rmo 0 0) [.ref (ad 2)] σ (zV (f_SR_tick σ)) := by
  refine rC.of (by decide) (Nat.le_of_ble_eq_true rfl) ?_
  intro p e s m below meth c A ls hc w hl
  generalize e0 : zV (f_SR_tick σ) = Z
  have hc : Cx xCl E A p s m ([.ref (ad 2)] : List Value).toArray meth c b_SR_tick 1 (Option.none : Option Jvm.ClassFile.FieldType) "PageMachine$SystemRegisters" := hc
  have hx := hc.1
  have hb := hc.2.1
  have ho := hc.2.2.2.2.2.1
  have hT := hc.2.2.2.2.2.2.1
  have hl : lv_has ls 1 [(0, .ref (ad 2))] := hl
  refine lv_aload_n hx hb d_SR_tick_0 rfl (lv_at hl 0 rfl) ?_
  refine g_SR_values hc w mw_47 d_SR_tick_1 ?_
  refine lv_bipush (v := 9) hx hb d_SR_tick_4 (by decide) ?_
  refine lv_dup2_11 hx hb d_SR_tick_6 rfl rfl ?_
  refine a_SR_values hc w (by unfold vp_in; decide) d_SR_tick_7 ?_
  refine lv_iconst (v := 1) hx hb d_SR_tick_8 (by decide) ?_
  refine lv_iadd hx hb d_SR_tick_9 ?_
  refine s_SR_values hc w (by unfold vp_in; decide) d_SR_tick_10 (fun σ10 H locs hs10 w => ?_)
  have e_c1 : zV (f_SR_tick_c1 σ10  ) = Z := by rw [← e0, f_SR_tick, hs10]
  refine lv_aload_n hx hb d_SR_tick_11 rfl (lv_at hl 0 rfl) ?_
  refine g_SR_values hc w mw_47 d_SR_tick_12 ?_
  refine lv_bipush (v := 9) hx hb d_SR_tick_15 (by decide) ?_
  refine a_SR_values hc w (by unfold vp_in; decide) d_SR_tick_17 ?_
  refine lv_aload_n hx hb d_SR_tick_18 rfl (lv_at hl 0 rfl) ?_
  refine g_SR_values hc w mw_47 d_SR_tick_19 ?_
  refine lv_bipush (v := 11) hx hb d_SR_tick_22 (by decide) ?_
  refine a_SR_values hc w (by unfold vp_in; decide) d_SR_tick_24 ?_
  refine lv_icmp_ne (tgt := 33) hx hb d_SR_tick_25 (by decide) (fun q25 => ?_) (fun q25 => ?_)
  · exact rt_v hc w d_SR_tick_33 (by rw [← e_c1, f_SR_tick_c1, if_neg q25] <;> rfl)
  · refine lv_aload_n hx hb d_SR_tick_28 rfl (lv_at hl 0 rfl) ?_
    refine lv_iconst (v := 1) hx hb d_SR_tick_29 (by decide) ?_
    refine p_SR_timerIsDue (v := true) hc w mw_49 d_SR_tick_30 (fun σ30 H locs hs30 w => ?_)
    have e_c2 : zV (f_SR_tick_c2 σ30  ) = Z := by rw [← e_c1, f_SR_tick_c1, if_pos q25, hs30]
    exact rt_v hc w d_SR_tick_33 (by rw [← e_c2, f_SR_tick_c2] <;> rfl)
-- SR_interruptIsDue
def f_SR_interruptIsDue (σ : XS) : Bool := if ((x_values σ (Int32.toNatClampNeg (12 : Int32))) &&& (3 : Int32)) = (1 : Int32) then (if (((f_SR_read σ (13 : Int32)) &&& (x_values σ (Int32.toNatClampNeg (12 : Int32)))) &&& (65280 : Int32)) = 0 then (false) else (true)) else (false)
theorem d_SR_interruptIsDue_0 : decode b_SR_interruptIsDue 0 = .ok (.aload_n 0, 1) := by decide +kernel
theorem d_SR_interruptIsDue_1 : decode b_SR_interruptIsDue 1 = .ok (.getfield 11, 3) := by decide +kernel
theorem d_SR_interruptIsDue_4 : decode b_SR_interruptIsDue 4 = .ok (.bipush 12, 2) := by decide +kernel
theorem d_SR_interruptIsDue_6 : decode b_SR_interruptIsDue 6 = .ok (.iaload, 1) := by decide +kernel
theorem d_SR_interruptIsDue_7 : decode b_SR_interruptIsDue 7 = .ok (.istore_n 1, 1) := by decide +kernel
theorem d_SR_interruptIsDue_8 : decode b_SR_interruptIsDue 8 = .ok (.iload_n 1, 1) := by decide +kernel
theorem d_SR_interruptIsDue_9 : decode b_SR_interruptIsDue 9 = .ok (.iconst 3, 1) := by decide +kernel
theorem d_SR_interruptIsDue_10 : decode b_SR_interruptIsDue 10 = .ok (.iand, 1) := by decide +kernel
theorem d_SR_interruptIsDue_11 : decode b_SR_interruptIsDue 11 = .ok (.iconst 1, 1) := by decide +kernel
theorem d_SR_interruptIsDue_12 : decode b_SR_interruptIsDue 12 = .ok (.if_icmp .ne 21, 3) := by decide +kernel
theorem d_SR_interruptIsDue_15 : decode b_SR_interruptIsDue 15 = .ok (.aload_n 0, 1) := by decide +kernel
theorem d_SR_interruptIsDue_16 : decode b_SR_interruptIsDue 16 = .ok (.bipush 13, 2) := by decide +kernel
theorem d_SR_interruptIsDue_18 : decode b_SR_interruptIsDue 18 = .ok (.invokevirtual 28, 3) := by decide +kernel
theorem d_SR_interruptIsDue_21 : decode b_SR_interruptIsDue 21 = .ok (.iload_n 1, 1) := by decide +kernel
theorem d_SR_interruptIsDue_22 : decode b_SR_interruptIsDue 22 = .ok (.iand, 1) := by decide +kernel
theorem d_SR_interruptIsDue_23 : decode b_SR_interruptIsDue 23 = .ok (.ldc 32, 2) := by decide +kernel
theorem d_SR_interruptIsDue_25 : decode b_SR_interruptIsDue 25 = .ok (.iand, 1) := by decide +kernel
theorem d_SR_interruptIsDue_26 : decode b_SR_interruptIsDue 26 = .ok (.ifCond .eq 7, 3) := by decide +kernel
theorem d_SR_interruptIsDue_29 : decode b_SR_interruptIsDue 29 = .ok (.iconst 1, 1) := by decide +kernel
theorem d_SR_interruptIsDue_30 : decode b_SR_interruptIsDue 30 = .ok (.goto 4, 3) := by decide +kernel
theorem d_SR_interruptIsDue_33 : decode b_SR_interruptIsDue 33 = .ok (.iconst 0, 1) := by decide +kernel
theorem d_SR_interruptIsDue_34 : decode b_SR_interruptIsDue 34 = .ok (.ireturn, 1) := by decide +kernel
set_option maxHeartbeats 4000000 in
set_option maxRecDepth 100000 in
theorem c_SR_interruptIsDue (l : Launch) (E : Ev) (ad : Nat → Nat) (σ : XS) : rC xCl l E (xW E ad) y_SR_interruptIsDue b_SR_interruptIsDue 2 (Option.some Jvm.ClassFile.FieldType.boolean) (rmo 1 22) [.ref (ad 2)] σ ((σ, some (Value.int (zb (f_SR_interruptIsDue σ))))) := by
  refine rC.of (by decide) (Nat.le_of_ble_eq_true rfl) ?_
  intro p e s m below meth c A ls hc w hl
  generalize e0 : (σ, some (Value.int (zb (f_SR_interruptIsDue σ)))) = Z
  have hc : Cx xCl E A p s m ([.ref (ad 2)] : List Value).toArray meth c b_SR_interruptIsDue 2 (Option.some Jvm.ClassFile.FieldType.boolean) "PageMachine$SystemRegisters" := hc
  have hx := hc.1
  have hb := hc.2.1
  have ho := hc.2.2.2.2.2.1
  have hT := hc.2.2.2.2.2.2.1
  have hl : lv_has ls 2 [(0, .ref (ad 2))] := hl
  refine lv_aload_n hx hb d_SR_interruptIsDue_0 rfl (lv_at hl 0 rfl) ?_
  refine g_SR_values hc w mw_47 d_SR_interruptIsDue_1 ?_
  refine lv_bipush (v := 12) hx hb d_SR_interruptIsDue_4 (by decide) ?_
  refine a_SR_values hc w (by unfold vp_in; decide) d_SR_interruptIsDue_6 ?_
  refine lv_istore_n (lv' := [(1, .int (x_values σ (Int32.toNatClampNeg (12 : Int32)))), (0, .ref (ad 2))]) hx hb d_SR_interruptIsDue_7 rfl hl (by decide) rfl (fun ls hl => ?_)
  refine lv_iload_n hx hb d_SR_interruptIsDue_8 rfl (lv_at hl 0 rfl) ?_
  refine lv_iconst (v := 3) hx hb d_SR_interruptIsDue_9 (by decide) ?_
  refine lv_iand hx hb d_SR_interruptIsDue_10 ?_
  refine lv_iconst (v := 1) hx hb d_SR_interruptIsDue_11 (by decide) ?_
  refine lv_icmp_ne (tgt := 33) hx hb d_SR_interruptIsDue_12 (by decide) (fun q12 => ?_) (fun q12 => ?_)
  · refine lv_iconst (v := 0) hx hb d_SR_interruptIsDue_33 (by decide) ?_
    exact rt_z (v := false) hc w d_SR_interruptIsDue_34 rfl (by rw [← e0, f_SR_interruptIsDue, if_neg q12] <;> rfl)
  · refine lv_aload_n hx hb d_SR_interruptIsDue_15 rfl (lv_at hl 1 rfl) ?_
    refine lv_bipush (v := 13) hx hb d_SR_interruptIsDue_16 (by decide) ?_
    refine rVI (rest := []) hc w (c_SR_read l E ad σ (13 : Int32)) kv_SR_read mw_456 2 rfl rfl ⟨Nat.le_of_ble_eq_true rfl, Nat.le_of_ble_eq_true rfl⟩ hl.1 rfl (Nat.le_of_ble_eq_true rfl) ⟨Nat.zero_le _, Nat.zero_le _⟩ d_SR_interruptIsDue_18 (fun H locs w => ?_)
    refine lv_iload_n hx hb d_SR_interruptIsDue_21 rfl (lv_at hl 0 rfl) ?_
    refine lv_iand hx hb d_SR_interruptIsDue_22 ?_
    refine lv_ldc (v := 65280) hx hb ho (hT _ mw_457) d_SR_interruptIsDue_23 ?_
    refine lv_iand hx hb d_SR_interruptIsDue_25 ?_
    refine lv_if_eq (tgt := 33) hx hb d_SR_interruptIsDue_26 (by decide) (fun q26 => ?_) (fun q26 => ?_)
    · refine lv_iconst (v := 0) hx hb d_SR_interruptIsDue_33 (by decide) ?_
      exact rt_z (v := false) hc w d_SR_interruptIsDue_34 rfl (by rw [← e0, f_SR_interruptIsDue, if_pos q12, if_pos q26] <;> rfl)
    · refine lv_iconst (v := 1) hx hb d_SR_interruptIsDue_29 (by decide) ?_
      refine lv_goto (tgt := 34) hx hb d_SR_interruptIsDue_30 (by decide) ?_
      exact rt_z (v := true) hc w d_SR_interruptIsDue_34 rfl (by rw [← e0, f_SR_interruptIsDue, if_pos q12, if_neg q26] <;> rfl)
-- SR_moveRandom
def f_SR_moveRandom_c1 (σ35 : XS)   : XS := σ35
def f_SR_moveRandom_35 (σ : XS) (w35_2 : Int32) : XS := f_SR_moveRandom_c1 (xs_values σ (upd (x_values σ) (Int32.toNatClampNeg (1 : Int32)) w35_2))  
def f_SR_moveRandom_27 (σ : XS) : XS := f_SR_moveRandom_35 σ (31 : Int32)
def f_SR_moveRandom (σ : XS) : XS := if (x_values σ (Int32.toNatClampNeg (1 : Int32))) = (x_values σ (Int32.toNatClampNeg (6 : Int32))) then (f_SR_moveRandom_27 σ) else (if (x_values σ (Int32.toNatClampNeg (1 : Int32))) = 0 then (f_SR_moveRandom_27 σ) else (f_SR_moveRandom_35 σ ((x_values σ (Int32.toNatClampNeg (1 : Int32))) - (1 : Int32))))
theorem d_SR_moveRandom_0 : decode b_SR_moveRandom 0 = .ok (.aload_n 0, 1) := by decide +kernel
theorem d_SR_moveRandom_1 : decode b_SR_moveRandom 1 = .ok (.getfield 11, 3) := by decide +kernel
theorem d_SR_moveRandom_4 : decode b_SR_moveRandom 4 = .ok (.iconst 1, 1) := by decide +kernel
theorem d_SR_moveRandom_5 : decode b_SR_moveRandom 5 = .ok (.iaload, 1) := by decide +kernel
theorem d_SR_moveRandom_6 : decode b_SR_moveRandom 6 = .ok (.istore_n 1, 1) := by decide +kernel
theorem d_SR_moveRandom_7 : decode b_SR_moveRandom 7 = .ok (.aload_n 0, 1) := by decide +kernel
theorem d_SR_moveRandom_8 : decode b_SR_moveRandom 8 = .ok (.getfield 11, 3) := by decide +kernel
theorem d_SR_moveRandom_11 : decode b_SR_moveRandom 11 = .ok (.iconst 1, 1) := by decide +kernel
theorem d_SR_moveRandom_12 : decode b_SR_moveRandom 12 = .ok (.iload_n 1, 1) := by decide +kernel
theorem d_SR_moveRandom_13 : decode b_SR_moveRandom 13 = .ok (.aload_n 0, 1) := by decide +kernel
theorem d_SR_moveRandom_14 : decode b_SR_moveRandom 14 = .ok (.getfield 11, 3) := by decide +kernel
theorem d_SR_moveRandom_17 : decode b_SR_moveRandom 17 = .ok (.bipush 6, 2) := by decide +kernel
theorem d_SR_moveRandom_19 : decode b_SR_moveRandom 19 = .ok (.iaload, 1) := by decide +kernel
theorem d_SR_moveRandom_20 : decode b_SR_moveRandom 20 = .ok (.if_icmp .eq 7, 3) := by decide +kernel
theorem d_SR_moveRandom_23 : decode b_SR_moveRandom 23 = .ok (.iload_n 1, 1) := by decide +kernel
theorem d_SR_moveRandom_24 : decode b_SR_moveRandom 24 = .ok (.ifCond .ne 8, 3) := by decide +kernel
theorem d_SR_moveRandom_27 : decode b_SR_moveRandom 27 = .ok (.bipush 31, 2) := by decide +kernel
theorem d_SR_moveRandom_29 : decode b_SR_moveRandom 29 = .ok (.goto 6, 3) := by decide +kernel
theorem d_SR_moveRandom_32 : decode b_SR_moveRandom 32 = .ok (.iload_n 1, 1) := by decide +kernel
theorem d_SR_moveRandom_33 : decode b_SR_moveRandom 33 = .ok (.iconst 1, 1) := by decide +kernel
theorem d_SR_moveRandom_34 : decode b_SR_moveRandom 34 = .ok (.isub, 1) := by decide +kernel
theorem d_SR_moveRandom_35 : decode b_SR_moveRandom 35 = .ok (.iastore, 1) := by decide +kernel
theorem d_SR_moveRandom_36 : decode b_SR_moveRandom 36 = .ok (.return_, 1) := by decide +kernel
set_option maxHeartbeats 4000000 in
set_option maxRecDepth 100000 in
theorem c_SR_moveRandom (l : Launch) (E : Ev) (ad : Nat → Nat) (σ : XS) : rC xCl l E (xW E ad) y_SR_moveRandom b_SR_moveRandom 2 (Option.none : Option Jvm.ClassFile.FieldType) (rmo 0 0) [.ref (ad 2)] σ (zV (f_SR_moveRandom σ)) := by
  refine rC.of (by decide) (Nat.le_of_ble_eq_true rfl) ?_
  intro p e s m below meth c A ls hc w hl
  generalize e0 : zV (f_SR_moveRandom σ) = Z
  have hc : Cx xCl E A p s m ([.ref (ad 2)] : List Value).toArray meth c b_SR_moveRandom 2 (Option.none : Option Jvm.ClassFile.FieldType) "PageMachine$SystemRegisters" := hc
  have hx := hc.1
  have hb := hc.2.1
  have ho := hc.2.2.2.2.2.1
  have hT := hc.2.2.2.2.2.2.1
  have hl : lv_has ls 2 [(0, .ref (ad 2))] := hl
  have J35 : ∀ (w35_2 : Int32) (H : Heap) (locs : List Loc) (ls : Array Slot), Wd xCl E A s.heap H locs (xW E ad σ) → lv_has ls 2 [] → zV (f_SR_moveRandom_35 σ w35_2) = Z → W p l e (rmo 0 0) s m ([.ref (ad 2)] : List Value).toArray below meth c H locs 0 0 (MQ below (rQ xCl (xW E ad) E A Z) ([.ref (ad 2)] : List Value).toArray s 0 0 A) (F0 m 35 ls [.int w35_2, .int (1 : Int32), .ref (ad 12)]) := by
    intro w35_2 H locs ls w hl e35
    refine s_SR_values hc w (by unfold vp_in; decide) d_SR_moveRandom_35 (fun σ35 H locs hs35 w => ?_)
    have e_c1 : zV (f_SR_moveRandom_c1 σ35  ) = Z := by rw [← e35, f_SR_moveRandom_35, hs35]
    exact rt_v hc w d_SR_moveRandom_36 (by rw [← e_c1, f_SR_moveRandom_c1] <;> rfl)
  have J27 : ∀ (H : Heap) (locs : List Loc) (ls : Array Slot), Wd xCl E A s.heap H locs (xW E ad σ) → lv_has ls 2 [] → zV (f_SR_moveRandom_27 σ) = Z → W p l e (rmo 0 0) s m ([.ref (ad 2)] : List Value).toArray below meth c H locs 0 0 (MQ below (rQ xCl (xW E ad) E A Z) ([.ref (ad 2)] : List Value).toArray s 0 0 A) (F0 m 27 ls [.int (1 : Int32), .ref (ad 12)]) := by
    intro  H locs ls w hl e27
    refine lv_bipush (v := 31) hx hb d_SR_moveRandom_27 (by decide) ?_
    refine lv_goto (tgt := 35) hx hb d_SR_moveRandom_29 (by decide) ?_
    exact J35 (31 : Int32) _ _ _ w (lv_sub hl [] rfl) (by rw [← e27, f_SR_moveRandom_27])
  refine lv_aload_n hx hb d_SR_moveRandom_0 rfl (lv_at hl 0 rfl) ?_
  refine g_SR_values hc w mw_47 d_SR_moveRandom_1 ?_
  refine lv_iconst (v := 1) hx hb d_SR_moveRandom_4 (by decide) ?_
  refine a_SR_values hc w (by unfold vp_in; decide) d_SR_moveRandom_5 ?_
  refine lv_istore_n (lv' := [(1, .int (x_values σ (Int32.toNatClampNeg (1 : Int32)))), (0, .ref (ad 2))]) hx hb d_SR_moveRandom_6 rfl hl (by decide) rfl (fun ls hl => ?_)
  refine lv_aload_n hx hb d_SR_moveRandom_7 rfl (lv_at hl 1 rfl) ?_
  refine g_SR_values hc w mw_47 d_SR_moveRandom_8 ?_
  refine lv_iconst (v := 1) hx hb d_SR_moveRandom_11 (by decide) ?_
  refine lv_iload_n hx hb d_SR_moveRandom_12 rfl (lv_at hl 0 rfl) ?_
  refine lv_aload_n hx hb d_SR_moveRandom_13 rfl (lv_at hl 1 rfl) ?_
  refine g_SR_values hc w mw_47 d_SR_moveRandom_14 ?_
  refine lv_bipush (v := 6) hx hb d_SR_moveRandom_17 (by decide) ?_
  refine a_SR_values hc w (by unfold vp_in; decide) d_SR_moveRandom_19 ?_
  refine lv_icmp_eq (tgt := 27) hx hb d_SR_moveRandom_20 (by decide) (fun q20 => ?_) (fun q20 => ?_)
  · exact J27  _ _ _ w (lv_sub hl [] rfl) (by rw [← e0, f_SR_moveRandom, if_pos q20])
  · refine lv_iload_n hx hb d_SR_moveRandom_23 rfl (lv_at hl 0 rfl) ?_
    refine lv_if_ne (tgt := 32) hx hb d_SR_moveRandom_24 (by decide) (fun q24 => ?_) (fun q24 => ?_)
    · refine lv_iload_n hx hb d_SR_moveRandom_32 rfl (lv_at hl 0 rfl) ?_
      refine lv_iconst (v := 1) hx hb d_SR_moveRandom_33 (by decide) ?_
      refine lv_isub hx hb d_SR_moveRandom_34 ?_
      exact J35 ((x_values σ (Int32.toNatClampNeg (1 : Int32))) - (1 : Int32)) _ _ _ w (lv_sub hl [] rfl) (by rw [← e0, f_SR_moveRandom, if_neg q20, if_neg q24])
    · exact J27  _ _ _ w (lv_sub hl [] rfl) (by rw [← e0, f_SR_moveRandom, if_neg q20, if_pos q24])
-- SR_inUserMode
def f_SR_inUserMode (σ : XS) : Bool := if ((x_values σ (Int32.toNatClampNeg (12 : Int32))) &&& (18 : Int32)) = (16 : Int32) then (true) else (false)
theorem d_SR_inUserMode_0 : decode b_SR_inUserMode 0 = .ok (.aload_n 0, 1) := by decide +kernel
theorem d_SR_inUserMode_1 : decode b_SR_inUserMode 1 = .ok (.getfield 11, 3) := by decide +kernel
theorem d_SR_inUserMode_4 : decode b_SR_inUserMode 4 = .ok (.bipush 12, 2) := by decide +kernel
theorem d_SR_inUserMode_6 : decode b_SR_inUserMode 6 = .ok (.iaload, 1) := by decide +kernel
theorem d_SR_inUserMode_7 : decode b_SR_inUserMode 7 = .ok (.bipush 18, 2) := by decide +kernel
theorem d_SR_inUserMode_9 : decode b_SR_inUserMode 9 = .ok (.iand, 1) := by decide +kernel
theorem d_SR_inUserMode_10 : decode b_SR_inUserMode 10 = .ok (.bipush 16, 2) := by decide +kernel
theorem d_SR_inUserMode_12 : decode b_SR_inUserMode 12 = .ok (.if_icmp .ne 7, 3) := by decide +kernel
theorem d_SR_inUserMode_15 : decode b_SR_inUserMode 15 = .ok (.iconst 1, 1) := by decide +kernel
theorem d_SR_inUserMode_16 : decode b_SR_inUserMode 16 = .ok (.goto 4, 3) := by decide +kernel
theorem d_SR_inUserMode_19 : decode b_SR_inUserMode 19 = .ok (.iconst 0, 1) := by decide +kernel
theorem d_SR_inUserMode_20 : decode b_SR_inUserMode 20 = .ok (.ireturn, 1) := by decide +kernel
set_option maxHeartbeats 4000000 in
set_option maxRecDepth 100000 in
theorem c_SR_inUserMode (l : Launch) (E : Ev) (ad : Nat → Nat) (σ : XS) : rC xCl l E (xW E ad) y_SR_inUserMode b_SR_inUserMode 1 (Option.some Jvm.ClassFile.FieldType.boolean) (rmo 0 0) [.ref (ad 2)] σ ((σ, some (Value.int (zb (f_SR_inUserMode σ))))) := by
  refine rC.of (by decide) (Nat.le_of_ble_eq_true rfl) ?_
  intro p e s m below meth c A ls hc w hl
  generalize e0 : (σ, some (Value.int (zb (f_SR_inUserMode σ)))) = Z
  have hc : Cx xCl E A p s m ([.ref (ad 2)] : List Value).toArray meth c b_SR_inUserMode 1 (Option.some Jvm.ClassFile.FieldType.boolean) "PageMachine$SystemRegisters" := hc
  have hx := hc.1
  have hb := hc.2.1
  have ho := hc.2.2.2.2.2.1
  have hT := hc.2.2.2.2.2.2.1
  have hl : lv_has ls 1 [(0, .ref (ad 2))] := hl
  refine lv_aload_n hx hb d_SR_inUserMode_0 rfl (lv_at hl 0 rfl) ?_
  refine g_SR_values hc w mw_47 d_SR_inUserMode_1 ?_
  refine lv_bipush (v := 12) hx hb d_SR_inUserMode_4 (by decide) ?_
  refine a_SR_values hc w (by unfold vp_in; decide) d_SR_inUserMode_6 ?_
  refine lv_bipush (v := 18) hx hb d_SR_inUserMode_7 (by decide) ?_
  refine lv_iand hx hb d_SR_inUserMode_9 ?_
  refine lv_bipush (v := 16) hx hb d_SR_inUserMode_10 (by decide) ?_
  refine lv_icmp_ne (tgt := 19) hx hb d_SR_inUserMode_12 (by decide) (fun q12 => ?_) (fun q12 => ?_)
  · refine lv_iconst (v := 0) hx hb d_SR_inUserMode_19 (by decide) ?_
    exact rt_z (v := false) hc w d_SR_inUserMode_20 rfl (by rw [← e0, f_SR_inUserMode, if_neg q12] <;> rfl)
  · refine lv_iconst (v := 1) hx hb d_SR_inUserMode_15 (by decide) ?_
    refine lv_goto (tgt := 20) hx hb d_SR_inUserMode_16 (by decide) ?_
    exact rt_z (v := true) hc w d_SR_inUserMode_20 rfl (by rw [← e0, f_SR_inUserMode, if_pos q12] <;> rfl)
-- SR_mayUseSystem
def f_SR_mayUseSystem_20 (σ : XS) : Bool := true
def f_SR_mayUseSystem (σ : XS) : Bool := if (zb (f_SR_inUserMode σ)) = 0 then (f_SR_mayUseSystem_20 σ) else (if ((x_values σ (Int32.toNatClampNeg (12 : Int32))) &&& (268435456 : Int32)) = 0 then (false) else (f_SR_mayUseSystem_20 σ))
theorem d_SR_mayUseSystem_0 : decode b_SR_mayUseSystem 0 = .ok (.aload_n 0, 1) := by decide +kernel
theorem d_SR_mayUseSystem_1 : decode b_SR_mayUseSystem 1 = .ok (.invokevirtual 33, 3) := by decide +kernel
theorem d_SR_mayUseSystem_4 : decode b_SR_mayUseSystem 4 = .ok (.ifCond .eq 16, 3) := by decide +kernel
theorem d_SR_mayUseSystem_7 : decode b_SR_mayUseSystem 7 = .ok (.aload_n 0, 1) := by decide +kernel
theorem d_SR_mayUseSystem_8 : decode b_SR_mayUseSystem 8 = .ok (.getfield 11, 3) := by decide +kernel
theorem d_SR_mayUseSystem_11 : decode b_SR_mayUseSystem 11 = .ok (.bipush 12, 2) := by decide +kernel
theorem d_SR_mayUseSystem_13 : decode b_SR_mayUseSystem 13 = .ok (.iaload, 1) := by decide +kernel
theorem d_SR_mayUseSystem_14 : decode b_SR_mayUseSystem 14 = .ok (.ldc 37, 2) := by decide +kernel
theorem d_SR_mayUseSystem_16 : decode b_SR_mayUseSystem 16 = .ok (.iand, 1) := by decide +kernel
theorem d_SR_mayUseSystem_17 : decode b_SR_mayUseSystem 17 = .ok (.ifCond .eq 7, 3) := by decide +kernel
theorem d_SR_mayUseSystem_20 : decode b_SR_mayUseSystem 20 = .ok (.iconst 1, 1) := by decide +kernel
theorem d_SR_mayUseSystem_21 : decode b_SR_mayUseSystem 21 = .ok (.goto 4, 3) := by decide +kernel
theorem d_SR_mayUseSystem_24 : decode b_SR_mayUseSystem 24 = .ok (.iconst 0, 1) := by decide +kernel
theorem d_SR_mayUseSystem_25 : decode b_SR_mayUseSystem 25 = .ok (.ireturn, 1) := by decide +kernel
set_option maxHeartbeats 4000000 in
set_option maxRecDepth 100000 in
theorem c_SR_mayUseSystem (l : Launch) (E : Ev) (ad : Nat → Nat) (σ : XS) : rC xCl l E (xW E ad) y_SR_mayUseSystem b_SR_mayUseSystem 1 (Option.some Jvm.ClassFile.FieldType.boolean) (rmo 1 20) [.ref (ad 2)] σ ((σ, some (Value.int (zb (f_SR_mayUseSystem σ))))) := by
  refine rC.of (by decide) (Nat.le_of_ble_eq_true rfl) ?_
  intro p e s m below meth c A ls hc w hl
  generalize e0 : (σ, some (Value.int (zb (f_SR_mayUseSystem σ)))) = Z
  have hc : Cx xCl E A p s m ([.ref (ad 2)] : List Value).toArray meth c b_SR_mayUseSystem 1 (Option.some Jvm.ClassFile.FieldType.boolean) "PageMachine$SystemRegisters" := hc
  have hx := hc.1
  have hb := hc.2.1
  have ho := hc.2.2.2.2.2.1
  have hT := hc.2.2.2.2.2.2.1
  have hl : lv_has ls 1 [(0, .ref (ad 2))] := hl
  have J20 : ∀ (H : Heap) (locs : List Loc) (ls : Array Slot), Wd xCl E A s.heap H locs (xW E ad σ) → lv_has ls 1 [] → (σ, some (Value.int (zb (f_SR_mayUseSystem_20 σ)))) = Z → W p l e (rmo 1 20) s m ([.ref (ad 2)] : List Value).toArray below meth c H locs 0 0 (MQ below (rQ xCl (xW E ad) E A Z) ([.ref (ad 2)] : List Value).toArray s 0 0 A) (F0 m 20 ls []) := by
    intro  H locs ls w hl e20
    refine lv_iconst (v := 1) hx hb d_SR_mayUseSystem_20 (by decide) ?_
    refine lv_goto (tgt := 25) hx hb d_SR_mayUseSystem_21 (by decide) ?_
    exact rt_z (v := true) hc w d_SR_mayUseSystem_25 rfl (by rw [← e20, f_SR_mayUseSystem_20] <;> rfl)
  refine lv_aload_n hx hb d_SR_mayUseSystem_0 rfl (lv_at hl 0 rfl) ?_
  refine rVZ (rest := []) hc w (c_SR_inUserMode l E ad σ) kv_SR_inUserMode mw_708 2 rfl rfl ⟨Nat.le_of_ble_eq_true rfl, Nat.le_of_ble_eq_true rfl⟩ hl.1 rfl (Nat.le_of_ble_eq_true rfl) ⟨Nat.zero_le _, Nat.zero_le _⟩ d_SR_mayUseSystem_1 (fun H locs w => ?_)
  refine lv_if_eq (tgt := 20) hx hb d_SR_mayUseSystem_4 (by decide) (fun q4 => ?_) (fun q4 => ?_)
  · exact J20  _ _ _ w (lv_sub hl [] rfl) (by rw [← e0, f_SR_mayUseSystem, if_pos q4])
  · refine lv_aload_n hx hb d_SR_mayUseSystem_7 rfl (lv_at hl 0 rfl) ?_
    refine g_SR_values hc w mw_47 d_SR_mayUseSystem_8 ?_
    refine lv_bipush (v := 12) hx hb d_SR_mayUseSystem_11 (by decide) ?_
    refine a_SR_values hc w (by unfold vp_in; decide) d_SR_mayUseSystem_13 ?_
    refine lv_ldc (v := 268435456) hx hb ho (hT _ mw_709) d_SR_mayUseSystem_14 ?_
    refine lv_iand hx hb d_SR_mayUseSystem_16 ?_
    refine lv_if_eq (tgt := 24) hx hb d_SR_mayUseSystem_17 (by decide) (fun q17 => ?_) (fun q17 => ?_)
    · refine lv_iconst (v := 0) hx hb d_SR_mayUseSystem_24 (by decide) ?_
      exact rt_z (v := false) hc w d_SR_mayUseSystem_25 rfl (by rw [← e0, f_SR_mayUseSystem, if_neg q4, if_pos q17] <;> rfl)
    · exact J20  _ _ _ w (lv_sub hl [] rfl) (by rw [← e0, f_SR_mayUseSystem, if_neg q4, if_neg q17])
-- SR_noteProbe
def f_SR_noteProbe_c1 (σ16 : XS) (a1 : Int32)  : XS := σ16
def f_SR_noteProbe_16 (σ : XS) (a1 : Int32) (w16_2 : Int32) : XS := f_SR_noteProbe_c1 (xs_values σ (upd (x_values σ) (Int32.toNatClampNeg (0 : Int32)) w16_2)) a1 
def f_SR_noteProbe (σ : XS) (a1 : Int32) : XS := if a1 = (-1 : Int32) then (f_SR_noteProbe_16 σ a1 (-2147483648 : Int32)) else (f_SR_noteProbe_16 σ a1 a1)
theorem d_SR_noteProbe_0 : decode b_SR_noteProbe 0 = .ok (.aload_n 0, 1) := by decide +kernel
theorem d_SR_noteProbe_1 : decode b_SR_noteProbe 1 = .ok (.getfield 11, 3) := by decide +kernel
theorem d_SR_noteProbe_4 : decode b_SR_noteProbe 4 = .ok (.iconst 0, 1) := by decide +kernel
theorem d_SR_noteProbe_5 : decode b_SR_noteProbe 5 = .ok (.iload_n 1, 1) := by decide +kernel
theorem d_SR_noteProbe_6 : decode b_SR_noteProbe 6 = .ok (.iconst (-1), 1) := by decide +kernel
theorem d_SR_noteProbe_7 : decode b_SR_noteProbe 7 = .ok (.if_icmp .ne 8, 3) := by decide +kernel
theorem d_SR_noteProbe_10 : decode b_SR_noteProbe 10 = .ok (.ldc 38, 2) := by decide +kernel
theorem d_SR_noteProbe_12 : decode b_SR_noteProbe 12 = .ok (.goto 4, 3) := by decide +kernel
theorem d_SR_noteProbe_15 : decode b_SR_noteProbe 15 = .ok (.iload_n 1, 1) := by decide +kernel
theorem d_SR_noteProbe_16 : decode b_SR_noteProbe 16 = .ok (.iastore, 1) := by decide +kernel
theorem d_SR_noteProbe_17 : decode b_SR_noteProbe 17 = .ok (.return_, 1) := by decide +kernel
set_option maxHeartbeats 4000000 in
set_option maxRecDepth 100000 in
theorem c_SR_noteProbe (l : Launch) (E : Ev) (ad : Nat → Nat) (σ : XS) (a1 : Int32) : rC xCl l E (xW E ad) y_SR_noteProbe b_SR_noteProbe 2 (Option.none : Option Jvm.ClassFile.FieldType) (rmo 0 0) [.ref (ad 2), .int a1] σ (zV (f_SR_noteProbe σ a1)) := by
  refine rC.of (by decide) (Nat.le_of_ble_eq_true rfl) ?_
  intro p e s m below meth c A ls hc w hl
  generalize e0 : zV (f_SR_noteProbe σ a1) = Z
  have hc : Cx xCl E A p s m ([.ref (ad 2), .int a1] : List Value).toArray meth c b_SR_noteProbe 2 (Option.none : Option Jvm.ClassFile.FieldType) "PageMachine$SystemRegisters" := hc
  have hx := hc.1
  have hb := hc.2.1
  have ho := hc.2.2.2.2.2.1
  have hT := hc.2.2.2.2.2.2.1
  have hl : lv_has ls 2 [(0, .ref (ad 2)), (1, .int a1)] := hl
  have J16 : ∀ (w16_2 : Int32) (H : Heap) (locs : List Loc) (ls : Array Slot), Wd xCl E A s.heap H locs (xW E ad σ) → lv_has ls 2 [] → zV (f_SR_noteProbe_16 σ a1 w16_2) = Z → W p l e (rmo 0 0) s m ([.ref (ad 2), .int a1] : List Value).toArray below meth c H locs 0 0 (MQ below (rQ xCl (xW E ad) E A Z) ([.ref (ad 2), .int a1] : List Value).toArray s 0 0 A) (F0 m 16 ls [.int w16_2, .int (0 : Int32), .ref (ad 12)]) := by
    intro w16_2 H locs ls w hl e16
    refine s_SR_values hc w (by unfold vp_in; decide) d_SR_noteProbe_16 (fun σ16 H locs hs16 w => ?_)
    have e_c1 : zV (f_SR_noteProbe_c1 σ16 a1 ) = Z := by rw [← e16, f_SR_noteProbe_16, hs16]
    exact rt_v hc w d_SR_noteProbe_17 (by rw [← e_c1, f_SR_noteProbe_c1] <;> rfl)
  refine lv_aload_n hx hb d_SR_noteProbe_0 rfl (lv_at hl 0 rfl) ?_
  refine g_SR_values hc w mw_47 d_SR_noteProbe_1 ?_
  refine lv_iconst (v := 0) hx hb d_SR_noteProbe_4 (by decide) ?_
  refine lv_iload_n hx hb d_SR_noteProbe_5 rfl (lv_at hl 1 rfl) ?_
  refine lv_iconst (v := -1) hx hb d_SR_noteProbe_6 (by decide) ?_
  refine lv_icmp_ne (tgt := 15) hx hb d_SR_noteProbe_7 (by decide) (fun q7 => ?_) (fun q7 => ?_)
  · refine lv_iload_n hx hb d_SR_noteProbe_15 rfl (lv_at hl 1 rfl) ?_
    exact J16 a1 _ _ _ w (lv_sub hl [] rfl) (by rw [← e0, f_SR_noteProbe, if_neg q7])
  · refine lv_ldc (v := -2147483648) hx hb ho (hT _ mw_474) d_SR_noteProbe_10 ?_
    refine lv_goto (tgt := 16) hx hb d_SR_noteProbe_12 (by decide) ?_
    exact J16 (-2147483648 : Int32) _ _ _ w (lv_sub hl [] rfl) (by rw [← e0, f_SR_noteProbe, if_pos q7])
-- SR_loadEntry
def f_SR_loadEntry_c3 (σ21 : XS) (a1 : Int32) (a2 : Int32) (a3 : Int32)  : XS := σ21
def f_SR_loadEntry_c2 (σ14 : XS) (a1 : Int32) (a2 : Int32) (a3 : Int32)  : XS := f_SR_loadEntry_c3 (xs_values σ14 (upd (x_values σ14) (Int32.toNatClampNeg (3 : Int32)) a3)) a1 a2 a3 
def f_SR_loadEntry_c1 (σ7 : XS) (a1 : Int32) (a2 : Int32) (a3 : Int32)  : XS := f_SR_loadEntry_c2 (xs_values σ7 (upd (x_values σ7) (Int32.toNatClampNeg (2 : Int32)) a2)) a1 a2 a3 
def f_SR_loadEntry (σ : XS) (a1 : Int32) (a2 : Int32) (a3 : Int32) : XS := f_SR_loadEntry_c1 (xs_values σ (upd (x_values σ) (Int32.toNatClampNeg (10 : Int32)) a1)) a1 a2 a3 
theorem d_SR_loadEntry_0 : decode b_SR_loadEntry 0 = .ok (.aload_n 0, 1) := by decide +kernel
theorem d_SR_loadEntry_1 : decode b_SR_loadEntry 1 = .ok (.getfield 11, 3) := by decide +kernel
theorem d_SR_loadEntry_4 : decode b_SR_loadEntry 4 = .ok (.bipush 10, 2) := by decide +kernel
theorem d_SR_loadEntry_6 : decode b_SR_loadEntry 6 = .ok (.iload_n 1, 1) := by decide +kernel
theorem d_SR_loadEntry_7 : decode b_SR_loadEntry 7 = .ok (.iastore, 1) := by decide +kernel
theorem d_SR_loadEntry_8 : decode b_SR_loadEntry 8 = .ok (.aload_n 0, 1) := by decide +kernel
theorem d_SR_loadEntry_9 : decode b_SR_loadEntry 9 = .ok (.getfield 11, 3) := by decide +kernel
theorem d_SR_loadEntry_12 : decode b_SR_loadEntry 12 = .ok (.iconst 2, 1) := by decide +kernel
theorem d_SR_loadEntry_13 : decode b_SR_loadEntry 13 = .ok (.iload_n 2, 1) := by decide +kernel
theorem d_SR_loadEntry_14 : decode b_SR_loadEntry 14 = .ok (.iastore, 1) := by decide +kernel
theorem d_SR_loadEntry_15 : decode b_SR_loadEntry 15 = .ok (.aload_n 0, 1) := by decide +kernel
theorem d_SR_loadEntry_16 : decode b_SR_loadEntry 16 = .ok (.getfield 11, 3) := by decide +kernel
theorem d_SR_loadEntry_19 : decode b_SR_loadEntry 19 = .ok (.iconst 3, 1) := by decide +kernel
theorem d_SR_loadEntry_20 : decode b_SR_loadEntry 20 = .ok (.iload_n 3, 1) := by decide +kernel
theorem d_SR_loadEntry_21 : decode b_SR_loadEntry 21 = .ok (.iastore, 1) := by decide +kernel
theorem d_SR_loadEntry_22 : decode b_SR_loadEntry 22 = .ok (.return_, 1) := by decide +kernel
set_option maxHeartbeats 4000000 in
set_option maxRecDepth 100000 in
theorem c_SR_loadEntry (l : Launch) (E : Ev) (ad : Nat → Nat) (σ : XS) (a1 : Int32) (a2 : Int32) (a3 : Int32) : rC xCl l E (xW E ad) y_SR_loadEntry b_SR_loadEntry 4 (Option.none : Option Jvm.ClassFile.FieldType) (rmo 0 0) [.ref (ad 2), .int a1, .int a2, .int a3] σ (zV (f_SR_loadEntry σ a1 a2 a3)) := by
  refine rC.of (by decide) (Nat.le_of_ble_eq_true rfl) ?_
  intro p e s m below meth c A ls hc w hl
  generalize e0 : zV (f_SR_loadEntry σ a1 a2 a3) = Z
  have hc : Cx xCl E A p s m ([.ref (ad 2), .int a1, .int a2, .int a3] : List Value).toArray meth c b_SR_loadEntry 4 (Option.none : Option Jvm.ClassFile.FieldType) "PageMachine$SystemRegisters" := hc
  have hx := hc.1
  have hb := hc.2.1
  have ho := hc.2.2.2.2.2.1
  have hT := hc.2.2.2.2.2.2.1
  have hl : lv_has ls 4 [(0, .ref (ad 2)), (1, .int a1), (2, .int a2), (3, .int a3)] := hl
  refine lv_aload_n hx hb d_SR_loadEntry_0 rfl (lv_at hl 0 rfl) ?_
  refine g_SR_values hc w mw_47 d_SR_loadEntry_1 ?_
  refine lv_bipush (v := 10) hx hb d_SR_loadEntry_4 (by decide) ?_
  refine lv_iload_n hx hb d_SR_loadEntry_6 rfl (lv_at hl 1 rfl) ?_
  refine s_SR_values hc w (by unfold vp_in; decide) d_SR_loadEntry_7 (fun σ7 H locs hs7 w => ?_)
  have e_c1 : zV (f_SR_loadEntry_c1 σ7 a1 a2 a3 ) = Z := by rw [← e0, f_SR_loadEntry, hs7]
  refine lv_aload_n hx hb d_SR_loadEntry_8 rfl (lv_at hl 0 rfl) ?_
  refine g_SR_values hc w mw_47 d_SR_loadEntry_9 ?_
  refine lv_iconst (v := 2) hx hb d_SR_loadEntry_12 (by decide) ?_
  refine lv_iload_n hx hb d_SR_loadEntry_13 rfl (lv_at hl 2 rfl) ?_
  refine s_SR_values hc w (by unfold vp_in; decide) d_SR_loadEntry_14 (fun σ14 H locs hs14 w => ?_)
  have e_c2 : zV (f_SR_loadEntry_c2 σ14 a1 a2 a3 ) = Z := by rw [← e_c1, f_SR_loadEntry_c1, hs14]
  refine lv_aload_n hx hb d_SR_loadEntry_15 rfl (lv_at hl 0 rfl) ?_
  refine g_SR_values hc w mw_47 d_SR_loadEntry_16 ?_
  refine lv_iconst (v := 3) hx hb d_SR_loadEntry_19 (by decide) ?_
  refine lv_iload_n hx hb d_SR_loadEntry_20 rfl (lv_at hl 3 rfl) ?_
  refine s_SR_values hc w (by unfold vp_in; decide) d_SR_loadEntry_21 (fun σ21 H locs hs21 w => ?_)
  have e_c3 : zV (f_SR_loadEntry_c3 σ21 a1 a2 a3 ) = Z := by rw [← e_c2, f_SR_loadEntry_c2, hs21]
  exact rt_v hc w d_SR_loadEntry_22 (by rw [← e_c3, f_SR_loadEntry_c3] <;> rfl)
-- SR_leaveFault
def f_SR_leaveFault_c1 (σ11 : XS)   : XS × Int32 := (σ11, x_values σ11 (Int32.toNatClampNeg (14 : Int32)))
def f_SR_leaveFault (σ : XS) : XS × Int32 := f_SR_leaveFault_c1 (xs_values σ (upd (x_values σ) (Int32.toNatClampNeg (12 : Int32)) ((x_values σ (Int32.toNatClampNeg (12 : Int32))) &&& (-3 : Int32))))  
theorem d_SR_leaveFault_0 : decode b_SR_leaveFault 0 = .ok (.aload_n 0, 1) := by decide +kernel
theorem d_SR_leaveFault_1 : decode b_SR_leaveFault 1 = .ok (.getfield 11, 3) := by decide +kernel
theorem d_SR_leaveFault_4 : decode b_SR_leaveFault 4 = .ok (.bipush 12, 2) := by decide +kernel
theorem d_SR_leaveFault_6 : decode b_SR_leaveFault 6 = .ok (.dup2, 1) := by decide +kernel
theorem d_SR_leaveFault_7 : decode b_SR_leaveFault 7 = .ok (.iaload, 1) := by decide +kernel
theorem d_SR_leaveFault_8 : decode b_SR_leaveFault 8 = .ok (.bipush (-3), 2) := by decide +kernel
theorem d_SR_leaveFault_10 : decode b_SR_leaveFault 10 = .ok (.iand, 1) := by decide +kernel
theorem d_SR_leaveFault_11 : decode b_SR_leaveFault 11 = .ok (.iastore, 1) := by decide +kernel
theorem d_SR_leaveFault_12 : decode b_SR_leaveFault 12 = .ok (.aload_n 0, 1) := by decide +kernel
theorem d_SR_leaveFault_13 : decode b_SR_leaveFault 13 = .ok (.getfield 11, 3) := by decide +kernel
theorem d_SR_leaveFault_16 : decode b_SR_leaveFault 16 = .ok (.bipush 14, 2) := by decide +kernel
theorem d_SR_leaveFault_18 : decode b_SR_leaveFault 18 = .ok (.iaload, 1) := by decide +kernel
theorem d_SR_leaveFault_19 : decode b_SR_leaveFault 19 = .ok (.ireturn, 1) := by decide +kernel
set_option maxHeartbeats 4000000 in
set_option maxRecDepth 100000 in
theorem c_SR_leaveFault (l : Launch) (E : Ev) (ad : Nat → Nat) (σ : XS) : rC xCl l E (xW E ad) y_SR_leaveFault b_SR_leaveFault 1 (Option.some Jvm.ClassFile.FieldType.int) (rmo 0 0) [.ref (ad 2)] σ (zI (f_SR_leaveFault σ)) := by
  refine rC.of (by decide) (Nat.le_of_ble_eq_true rfl) ?_
  intro p e s m below meth c A ls hc w hl
  generalize e0 : zI (f_SR_leaveFault σ) = Z
  have hc : Cx xCl E A p s m ([.ref (ad 2)] : List Value).toArray meth c b_SR_leaveFault 1 (Option.some Jvm.ClassFile.FieldType.int) "PageMachine$SystemRegisters" := hc
  have hx := hc.1
  have hb := hc.2.1
  have ho := hc.2.2.2.2.2.1
  have hT := hc.2.2.2.2.2.2.1
  have hl : lv_has ls 1 [(0, .ref (ad 2))] := hl
  refine lv_aload_n hx hb d_SR_leaveFault_0 rfl (lv_at hl 0 rfl) ?_
  refine g_SR_values hc w mw_47 d_SR_leaveFault_1 ?_
  refine lv_bipush (v := 12) hx hb d_SR_leaveFault_4 (by decide) ?_
  refine lv_dup2_11 hx hb d_SR_leaveFault_6 rfl rfl ?_
  refine a_SR_values hc w (by unfold vp_in; decide) d_SR_leaveFault_7 ?_
  refine lv_bipush (v := -3) hx hb d_SR_leaveFault_8 (by decide) ?_
  refine lv_iand hx hb d_SR_leaveFault_10 ?_
  refine s_SR_values hc w (by unfold vp_in; decide) d_SR_leaveFault_11 (fun σ11 H locs hs11 w => ?_)
  have e_c1 : zI (f_SR_leaveFault_c1 σ11  ) = Z := by rw [← e0, f_SR_leaveFault, hs11]
  refine lv_aload_n hx hb d_SR_leaveFault_12 rfl (lv_at hl 0 rfl) ?_
  refine g_SR_values hc w mw_47 d_SR_leaveFault_13 ?_
  refine lv_bipush (v := 14) hx hb d_SR_leaveFault_16 (by decide) ?_
  refine a_SR_values hc w (by unfold vp_in; decide) d_SR_leaveFault_18 ?_
  exact rt_i hc w d_SR_leaveFault_19 (by rw [← e_c1, f_SR_leaveFault_c1] <;> rfl)
-- SR_noteAddress
def f_SR_noteAddress_c3 (σ95 : XS) (a1 : Int32) (a2 : Int32)  : XS := σ95
def f_SR_noteAddress_c2 (σ71 : XS) (a1 : Int32) (a2 : Int32)  : XS := f_SR_noteAddress_c3 (xs_values σ71 (upd (x_values σ71) (Int32.toNatClampNeg (10 : Int32)) (((x_values σ71 (Int32.toNatClampNeg (10 : Int32))) &&& (255 : Int32)) ||| (a2 &&& (-8192 : Int32))))) a1 a2 
def f_SR_noteAddress_43 (σ43 : XS) (a1 : Int32) (a2 : Int32) (v43_3 : Bool) : XS := if (zb v43_3) = 0 then (σ43) else (f_SR_noteAddress_c2 (xs_values σ43 (upd (x_values σ43) (Int32.toNatClampNeg (4 : Int32)) (((x_values σ43 (Int32.toNatClampNeg (4 : Int32))) &&& (wbI (Int32.toNatClampNeg (4 : Int32)))) ||| (((Int32.toUInt32 a2 >>> (Int32.toUInt32 (13 : Int32) &&& Int32.toUInt32 31)).toInt32) <<< ((4 : Int32) &&& 31))))) a1 a2 )
def f_SR_noteAddress_c1 (σ42 : XS) (a1 : Int32) (a2 : Int32) (v35_3 : Bool) : XS := f_SR_noteAddress_43 σ42 a1 a2 v35_3
def f_SR_noteAddress_35 (σ : XS) (a1 : Int32) (a2 : Int32) (v35_3 : Bool) : XS := f_SR_noteAddress_c1 (xs_values σ (upd (x_values σ) (Int32.toNatClampNeg (8 : Int32)) a2)) a1 a2 v35_3
def f_SR_noteAddress_20 (σ : XS) (a1 : Int32) (a2 : Int32) (w20_0 : Bool) : XS := if (zb w20_0) = 0 then (if a1 = (4 : Int32) then (f_SR_noteAddress_35 σ a1 a2 w20_0) else (if a1 = (5 : Int32) then (f_SR_noteAddress_35 σ a1 a2 w20_0) else (f_SR_noteAddress_43 σ a1 a2 w20_0))) else (f_SR_noteAddress_35 σ a1 a2 w20_0)
def f_SR_noteAddress_15 (σ : XS) (a1 : Int32) (a2 : Int32) : XS := f_SR_noteAddress_20 σ a1 a2 true
def f_SR_noteAddress (σ : XS) (a1 : Int32) (a2 : Int32) : XS := if a1 = (1 : Int32) then (f_SR_noteAddress_15 σ a1 a2) else (if a1 = (2 : Int32) then (f_SR_noteAddress_15 σ a1 a2) else (if a1 = (3 : Int32) then (f_SR_noteAddress_15 σ a1 a2) else (f_SR_noteAddress_20 σ a1 a2 false)))
theorem d_SR_noteAddress_0 : decode b_SR_noteAddress 0 = .ok (.iload_n 1, 1) := by decide +kernel
theorem d_SR_noteAddress_1 : decode b_SR_noteAddress 1 = .ok (.iconst 1, 1) := by decide +kernel
theorem d_SR_noteAddress_2 : decode b_SR_noteAddress 2 = .ok (.if_icmp .eq 13, 3) := by decide +kernel
theorem d_SR_noteAddress_5 : decode b_SR_noteAddress 5 = .ok (.iload_n 1, 1) := by decide +kernel
theorem d_SR_noteAddress_6 : decode b_SR_noteAddress 6 = .ok (.iconst 2, 1) := by decide +kernel
theorem d_SR_noteAddress_7 : decode b_SR_noteAddress 7 = .ok (.if_icmp .eq 8, 3) := by decide +kernel
theorem d_SR_noteAddress_10 : decode b_SR_noteAddress 10 = .ok (.iload_n 1, 1) := by decide +kernel
theorem d_SR_noteAddress_11 : decode b_SR_noteAddress 11 = .ok (.iconst 3, 1) := by decide +kernel
theorem d_SR_noteAddress_12 : decode b_SR_noteAddress 12 = .ok (.if_icmp .ne 7, 3) := by decide +kernel
theorem d_SR_noteAddress_15 : decode b_SR_noteAddress 15 = .ok (.iconst 1, 1) := by decide +kernel
theorem d_SR_noteAddress_16 : decode b_SR_noteAddress 16 = .ok (.goto 4, 3) := by decide +kernel
theorem d_SR_noteAddress_19 : decode b_SR_noteAddress 19 = .ok (.iconst 0, 1) := by decide +kernel
theorem d_SR_noteAddress_20 : decode b_SR_noteAddress 20 = .ok (.istore_n 3, 1) := by decide +kernel
theorem d_SR_noteAddress_21 : decode b_SR_noteAddress 21 = .ok (.iload_n 3, 1) := by decide +kernel
theorem d_SR_noteAddress_22 : decode b_SR_noteAddress 22 = .ok (.ifCond .ne 13, 3) := by decide +kernel
theorem d_SR_noteAddress_25 : decode b_SR_noteAddress 25 = .ok (.iload_n 1, 1) := by decide +kernel
theorem d_SR_noteAddress_26 : decode b_SR_noteAddress 26 = .ok (.iconst 4, 1) := by decide +kernel
theorem d_SR_noteAddress_27 : decode b_SR_noteAddress 27 = .ok (.if_icmp .eq 8, 3) := by decide +kernel
theorem d_SR_noteAddress_30 : decode b_SR_noteAddress 30 = .ok (.iload_n 1, 1) := by decide +kernel
theorem d_SR_noteAddress_31 : decode b_SR_noteAddress 31 = .ok (.iconst 5, 1) := by decide +kernel
theorem d_SR_noteAddress_32 : decode b_SR_noteAddress 32 = .ok (.if_icmp .ne 11, 3) := by decide +kernel
theorem d_SR_noteAddress_35 : decode b_SR_noteAddress 35 = .ok (.aload_n 0, 1) := by decide +kernel
theorem d_SR_noteAddress_36 : decode b_SR_noteAddress 36 = .ok (.getfield 11, 3) := by decide +kernel
theorem d_SR_noteAddress_39 : decode b_SR_noteAddress 39 = .ok (.bipush 8, 2) := by decide +kernel
theorem d_SR_noteAddress_41 : decode b_SR_noteAddress 41 = .ok (.iload_n 2, 1) := by decide +kernel
theorem d_SR_noteAddress_42 : decode b_SR_noteAddress 42 = .ok (.iastore, 1) := by decide +kernel
theorem d_SR_noteAddress_43 : decode b_SR_noteAddress 43 = .ok (.iload_n 3, 1) := by decide +kernel
theorem d_SR_noteAddress_44 : decode b_SR_noteAddress 44 = .ok (.ifCond .eq 52, 3) := by decide +kernel
theorem d_SR_noteAddress_47 : decode b_SR_noteAddress 47 = .ok (.aload_n 0, 1) := by decide +kernel
theorem d_SR_noteAddress_48 : decode b_SR_noteAddress 48 = .ok (.getfield 11, 3) := by decide +kernel
theorem d_SR_noteAddress_51 : decode b_SR_noteAddress 51 = .ok (.iconst 4, 1) := by decide +kernel
theorem d_SR_noteAddress_52 : decode b_SR_noteAddress 52 = .ok (.aload_n 0, 1) := by decide +kernel
theorem d_SR_noteAddress_53 : decode b_SR_noteAddress 53 = .ok (.getfield 11, 3) := by decide +kernel
theorem d_SR_noteAddress_56 : decode b_SR_noteAddress 56 = .ok (.iconst 4, 1) := by decide +kernel
theorem d_SR_noteAddress_57 : decode b_SR_noteAddress 57 = .ok (.iaload, 1) := by decide +kernel
theorem d_SR_noteAddress_58 : decode b_SR_noteAddress 58 = .ok (.getstatic 25, 3) := by decide +kernel
theorem d_SR_noteAddress_61 : decode b_SR_noteAddress 61 = .ok (.iconst 4, 1) := by decide +kernel
theorem d_SR_noteAddress_62 : decode b_SR_noteAddress 62 = .ok (.iaload, 1) := by decide +kernel
theorem d_SR_noteAddress_63 : decode b_SR_noteAddress 63 = .ok (.iand, 1) := by decide +kernel
theorem d_SR_noteAddress_64 : decode b_SR_noteAddress 64 = .ok (.iload_n 2, 1) := by decide +kernel
theorem d_SR_noteAddress_65 : decode b_SR_noteAddress 65 = .ok (.bipush 13, 2) := by decide +kernel
theorem d_SR_noteAddress_67 : decode b_SR_noteAddress 67 = .ok (.iushr, 1) := by decide +kernel
theorem d_SR_noteAddress_68 : decode b_SR_noteAddress 68 = .ok (.iconst 4, 1) := by decide +kernel
theorem d_SR_noteAddress_69 : decode b_SR_noteAddress 69 = .ok (.ishl, 1) := by decide +kernel
theorem d_SR_noteAddress_70 : decode b_SR_noteAddress 70 = .ok (.ior, 1) := by decide +kernel
theorem d_SR_noteAddress_71 : decode b_SR_noteAddress 71 = .ok (.iastore, 1) := by decide +kernel
theorem d_SR_noteAddress_72 : decode b_SR_noteAddress 72 = .ok (.aload_n 0, 1) := by decide +kernel
theorem d_SR_noteAddress_73 : decode b_SR_noteAddress 73 = .ok (.getfield 11, 3) := by decide +kernel
theorem d_SR_noteAddress_76 : decode b_SR_noteAddress 76 = .ok (.bipush 10, 2) := by decide +kernel
theorem d_SR_noteAddress_78 : decode b_SR_noteAddress 78 = .ok (.aload_n 0, 1) := by decide +kernel
theorem d_SR_noteAddress_79 : decode b_SR_noteAddress 79 = .ok (.getfield 11, 3) := by decide +kernel
theorem d_SR_noteAddress_82 : decode b_SR_noteAddress 82 = .ok (.bipush 10, 2) := by decide +kernel
theorem d_SR_noteAddress_84 : decode b_SR_noteAddress 84 = .ok (.iaload, 1) := by decide +kernel
theorem d_SR_noteAddress_85 : decode b_SR_noteAddress 85 = .ok (.sipush 255, 3) := by decide +kernel
theorem d_SR_noteAddress_88 : decode b_SR_noteAddress 88 = .ok (.iand, 1) := by decide +kernel
theorem d_SR_noteAddress_89 : decode b_SR_noteAddress 89 = .ok (.iload_n 2, 1) := by decide +kernel
theorem d_SR_noteAddress_90 : decode b_SR_noteAddress 90 = .ok (.sipush (-8192), 3) := by decide +kernel
theorem d_SR_noteAddress_93 : decode b_SR_noteAddress 93 = .ok (.iand, 1) := by decide +kernel
theorem d_SR_noteAddress_94 : decode b_SR_noteAddress 94 = .ok (.ior, 1) := by decide +kernel
theorem d_SR_noteAddress_95 : decode b_SR_noteAddress 95 = .ok (.iastore, 1) := by decide +kernel
theorem d_SR_noteAddress_96 : decode b_SR_noteAddress 96 = .ok (.return_, 1) := by decide +kernel
set_option maxHeartbeats 4000000 in
set_option maxRecDepth 100000 in
theorem c_SR_noteAddress (l : Launch) (E : Ev) (ad : Nat → Nat) (σ : XS) (a1 : Int32) (a2 : Int32) : rC xCl l E (xW E ad) y_SR_noteAddress b_SR_noteAddress 4 (Option.none : Option Jvm.ClassFile.FieldType) (rmo 0 0) [.ref (ad 2), .int a1, .int a2] σ (zV (f_SR_noteAddress σ a1 a2)) := by
  refine rC.of (by decide) (Nat.le_of_ble_eq_true rfl) ?_
  intro p e s m below meth c A ls hc w hl
  generalize e0 : zV (f_SR_noteAddress σ a1 a2) = Z
  have hc : Cx xCl E A p s m ([.ref (ad 2), .int a1, .int a2] : List Value).toArray meth c b_SR_noteAddress 4 (Option.none : Option Jvm.ClassFile.FieldType) "PageMachine$SystemRegisters" := hc
  have hx := hc.1
  have hb := hc.2.1
  have ho := hc.2.2.2.2.2.1
  have hT := hc.2.2.2.2.2.2.1
  have hl : lv_has ls 4 [(0, .ref (ad 2)), (1, .int a1), (2, .int a2)] := hl
  have J43 : ∀ (σ43 : XS) (v43_3 : Bool) (H : Heap) (locs : List Loc) (ls : Array Slot), Wd xCl E A s.heap H locs (xW E ad σ43) → lv_has ls 4 [(3, .int (zb v43_3)), (0, .ref (ad 2)), (2, .int a2)] → zV (f_SR_noteAddress_43 σ43 a1 a2 v43_3) = Z → W p l e (rmo 0 0) s m ([.ref (ad 2), .int a1, .int a2] : List Value).toArray below meth c H locs 0 0 (MQ below (rQ xCl (xW E ad) E A Z) ([.ref (ad 2), .int a1, .int a2] : List Value).toArray s 0 0 A) (F0 m 43 ls []) := by
    intro σ43 v43_3 H locs ls w hl e43
    refine lv_iload_n hx hb d_SR_noteAddress_43 rfl (lv_at hl 0 rfl) ?_
    refine lv_if_eq (tgt := 96) hx hb d_SR_noteAddress_44 (by decide) (fun q44 => ?_) (fun q44 => ?_)
    · exact rt_v hc w d_SR_noteAddress_96 (by rw [← e43, f_SR_noteAddress_43, if_pos q44] <;> rfl)
    · refine lv_aload_n hx hb d_SR_noteAddress_47 rfl (lv_at hl 1 rfl) ?_
      refine g_SR_values hc w mw_47 d_SR_noteAddress_48 ?_
      refine lv_iconst (v := 4) hx hb d_SR_noteAddress_51 (by decide) ?_
      refine lv_aload_n hx hb d_SR_noteAddress_52 rfl (lv_at hl 1 rfl) ?_
      refine g_SR_values hc w mw_47 d_SR_noteAddress_53 ?_
      refine lv_iconst (v := 4) hx hb d_SR_noteAddress_56 (by decide) ?_
      refine a_SR_values hc w (by unfold vp_in; decide) d_SR_noteAddress_57 ?_
      refine va_gets hx hb hc.2.2.2.2.2.2.2.2.1.1 w.2.2.1 ho (hT _ mw_398) (fun _ h => h) d_SR_noteAddress_58 ?_
      refine lv_iconst (v := 4) hx hb d_SR_noteAddress_61 (by decide) ?_
      refine va_ti hx hb hc.2.2.2.2.2.2.2.2.1.2 w.2.2.1 (by unfold vp_in; decide) rfl d_SR_noteAddress_62 ?_
      refine lv_iand hx hb d_SR_noteAddress_63 ?_
      refine lv_iload_n hx hb d_SR_noteAddress_64 rfl (lv_at hl 2 rfl) ?_
      refine lv_bipush (v := 13) hx hb d_SR_noteAddress_65 (by decide) ?_
      refine lv_iushr hx hb d_SR_noteAddress_67 rfl ?_
      refine lv_iconst (v := 4) hx hb d_SR_noteAddress_68 (by decide) ?_
      refine lv_ishl hx hb d_SR_noteAddress_69 ?_
      refine lv_ior hx hb d_SR_noteAddress_70 ?_
      refine s_SR_values hc w (by unfold vp_in; decide) d_SR_noteAddress_71 (fun σ71 H locs hs71 w => ?_)
      have e_c2 : zV (f_SR_noteAddress_c2 σ71 a1 a2 ) = Z := by rw [← e43, f_SR_noteAddress_43, if_neg q44, hs71]
      refine lv_aload_n hx hb d_SR_noteAddress_72 rfl (lv_at hl 1 rfl) ?_
      refine g_SR_values hc w mw_47 d_SR_noteAddress_73 ?_
      refine lv_bipush (v := 10) hx hb d_SR_noteAddress_76 (by decide) ?_
      refine lv_aload_n hx hb d_SR_noteAddress_78 rfl (lv_at hl 1 rfl) ?_
      refine g_SR_values hc w mw_47 d_SR_noteAddress_79 ?_
      refine lv_bipush (v := 10) hx hb d_SR_noteAddress_82 (by decide) ?_
      refine a_SR_values hc w (by unfold vp_in; decide) d_SR_noteAddress_84 ?_
      refine lv_sipush (v := 255) hx hb d_SR_noteAddress_85 (by decide) ?_
      refine lv_iand hx hb d_SR_noteAddress_88 ?_
      refine lv_iload_n hx hb d_SR_noteAddress_89 rfl (lv_at hl 2 rfl) ?_
      refine lv_sipush (v := -8192) hx hb d_SR_noteAddress_90 (by decide) ?_
      refine lv_iand hx hb d_SR_noteAddress_93 ?_
      refine lv_ior hx hb d_SR_noteAddress_94 ?_
      refine s_SR_values hc w (by unfold vp_in; decide) d_SR_noteAddress_95 (fun σ95 H locs hs95 w => ?_)
      have e_c3 : zV (f_SR_noteAddress_c3 σ95 a1 a2 ) = Z := by rw [← e_c2, f_SR_noteAddress_c2, hs95]
      exact rt_v hc w d_SR_noteAddress_96 (by rw [← e_c3, f_SR_noteAddress_c3] <;> rfl)
  have J35 : ∀ (v35_3 : Bool) (H : Heap) (locs : List Loc) (ls : Array Slot), Wd xCl E A s.heap H locs (xW E ad σ) → lv_has ls 4 [(3, .int (zb v35_3)), (0, .ref (ad 2)), (2, .int a2)] → zV (f_SR_noteAddress_35 σ a1 a2 v35_3) = Z → W p l e (rmo 0 0) s m ([.ref (ad 2), .int a1, .int a2] : List Value).toArray below meth c H locs 0 0 (MQ below (rQ xCl (xW E ad) E A Z) ([.ref (ad 2), .int a1, .int a2] : List Value).toArray s 0 0 A) (F0 m 35 ls []) := by
    intro v35_3 H locs ls w hl e35
    refine lv_aload_n hx hb d_SR_noteAddress_35 rfl (lv_at hl 1 rfl) ?_
    refine g_SR_values hc w mw_47 d_SR_noteAddress_36 ?_
    refine lv_bipush (v := 8) hx hb d_SR_noteAddress_39 (by decide) ?_
    refine lv_iload_n hx hb d_SR_noteAddress_41 rfl (lv_at hl 2 rfl) ?_
    refine s_SR_values hc w (by unfold vp_in; decide) d_SR_noteAddress_42 (fun σ42 H locs hs42 w => ?_)
    have e_c1 : zV (f_SR_noteAddress_c1 σ42 a1 a2 v35_3) = Z := by rw [← e35, f_SR_noteAddress_35, hs42]
    exact J43 σ42 v35_3 _ _ _ w (lv_sub hl [0, 1, 2] rfl) (by rw [← e_c1, f_SR_noteAddress_c1])
  have J20 : ∀ (w20_0 : Bool) (H : Heap) (locs : List Loc) (ls : Array Slot), Wd xCl E A s.heap H locs (xW E ad σ) → lv_has ls 4 [(0, .ref (ad 2)), (1, .int a1), (2, .int a2)] → zV (f_SR_noteAddress_20 σ a1 a2 w20_0) = Z → W p l e (rmo 0 0) s m ([.ref (ad 2), .int a1, .int a2] : List Value).toArray below meth c H locs 0 0 (MQ below (rQ xCl (xW E ad) E A Z) ([.ref (ad 2), .int a1, .int a2] : List Value).toArray s 0 0 A) (F0 m 20 ls [.int (zb w20_0)]) := by
    intro w20_0 H locs ls w hl e20
    refine lv_istore_n (lv' := [(3, .int (zb w20_0)), (0, .ref (ad 2)), (1, .int a1), (2, .int a2)]) hx hb d_SR_noteAddress_20 rfl hl (by decide) rfl (fun ls hl => ?_)
    refine lv_iload_n hx hb d_SR_noteAddress_21 rfl (lv_at hl 0 rfl) ?_
    refine lv_if_ne (tgt := 35) hx hb d_SR_noteAddress_22 (by decide) (fun q22 => ?_) (fun q22 => ?_)
    · exact J35 w20_0 _ _ _ w (lv_sub hl [0, 1, 3] rfl) (by rw [← e20, f_SR_noteAddress_20, if_neg q22])
    · refine lv_iload_n hx hb d_SR_noteAddress_25 rfl (lv_at hl 2 rfl) ?_
      refine lv_iconst (v := 4) hx hb d_SR_noteAddress_26 (by decide) ?_
      refine lv_icmp_eq (tgt := 35) hx hb d_SR_noteAddress_27 (by decide) (fun q27 => ?_) (fun q27 => ?_)
      · exact J35 w20_0 _ _ _ w (lv_sub hl [0, 1, 3] rfl) (by rw [← e20, f_SR_noteAddress_20, if_pos q22, if_pos q27])
      · refine lv_iload_n hx hb d_SR_noteAddress_30 rfl (lv_at hl 2 rfl) ?_
        refine lv_iconst (v := 5) hx hb d_SR_noteAddress_31 (by decide) ?_
        refine lv_icmp_ne (tgt := 43) hx hb d_SR_noteAddress_32 (by decide) (fun q32 => ?_) (fun q32 => ?_)
        · exact J43 σ w20_0 _ _ _ w (lv_sub hl [0, 1, 3] rfl) (by rw [← e20, f_SR_noteAddress_20, if_pos q22, if_neg q27, if_neg q32])
        · exact J35 w20_0 _ _ _ w (lv_sub hl [0, 1, 3] rfl) (by rw [← e20, f_SR_noteAddress_20, if_pos q22, if_neg q27, if_pos q32])
  have J15 : ∀ (H : Heap) (locs : List Loc) (ls : Array Slot), Wd xCl E A s.heap H locs (xW E ad σ) → lv_has ls 4 [(0, .ref (ad 2)), (1, .int a1), (2, .int a2)] → zV (f_SR_noteAddress_15 σ a1 a2) = Z → W p l e (rmo 0 0) s m ([.ref (ad 2), .int a1, .int a2] : List Value).toArray below meth c H locs 0 0 (MQ below (rQ xCl (xW E ad) E A Z) ([.ref (ad 2), .int a1, .int a2] : List Value).toArray s 0 0 A) (F0 m 15 ls []) := by
    intro  H locs ls w hl e15
    refine lv_iconst (v := 1) hx hb d_SR_noteAddress_15 (by decide) ?_
    refine lv_goto (tgt := 20) hx hb d_SR_noteAddress_16 (by decide) ?_
    exact J20 true _ _ _ w (lv_sub hl [0, 1, 2] rfl) (by rw [← e15, f_SR_noteAddress_15])
  refine lv_iload_n hx hb d_SR_noteAddress_0 rfl (lv_at hl 1 rfl) ?_
  refine lv_iconst (v := 1) hx hb d_SR_noteAddress_1 (by decide) ?_
  refine lv_icmp_eq (tgt := 15) hx hb d_SR_noteAddress_2 (by decide) (fun q2 => ?_) (fun q2 => ?_)
  · exact J15  _ _ _ w (lv_sub hl [0, 1, 2] rfl) (by rw [← e0, f_SR_noteAddress, if_pos q2])
  · refine lv_iload_n hx hb d_SR_noteAddress_5 rfl (lv_at hl 1 rfl) ?_
    refine lv_iconst (v := 2) hx hb d_SR_noteAddress_6 (by decide) ?_
    refine lv_icmp_eq (tgt := 15) hx hb d_SR_noteAddress_7 (by decide) (fun q7 => ?_) (fun q7 => ?_)
    · exact J15  _ _ _ w (lv_sub hl [0, 1, 2] rfl) (by rw [← e0, f_SR_noteAddress, if_neg q2, if_pos q7])
    · refine lv_iload_n hx hb d_SR_noteAddress_10 rfl (lv_at hl 1 rfl) ?_
      refine lv_iconst (v := 3) hx hb d_SR_noteAddress_11 (by decide) ?_
      refine lv_icmp_ne (tgt := 19) hx hb d_SR_noteAddress_12 (by decide) (fun q12 => ?_) (fun q12 => ?_)
      · refine lv_iconst (v := 0) hx hb d_SR_noteAddress_19 (by decide) ?_
        exact J20 false _ _ _ w (lv_sub hl [0, 1, 2] rfl) (by rw [← e0, f_SR_noteAddress, if_neg q2, if_neg q7, if_neg q12])
      · exact J15  _ _ _ w (lv_sub hl [0, 1, 2] rfl) (by rw [← e0, f_SR_noteAddress, if_neg q2, if_neg q7, if_pos q12])
-- SR_enterFault
def f_SR_enterFault_c5 (σ124 : XS) (a1 : Int32) (a2 : Int32) (a3 : Bool) (a4 : Int32) (v70_5 : Bool) : XS × Int32 := if (zb v70_5) = 0 then ((σ124, (-2147483264 : Int32))) else (if (zb (f_FA_isRefill σ124 a1)) = 0 then ((σ124, (-2147483264 : Int32))) else ((σ124, (-2147483648 : Int32))))
def f_SR_enterFault_c4 (z111 : XS) (a1 : Int32) (a2 : Int32) (a3 : Bool) (a4 : Int32) (v70_5 : Bool) : XS × Int32 := f_SR_enterFault_c5 (xs_values z111 (upd (x_values z111) (Int32.toNatClampNeg (12 : Int32)) ((x_values z111 (Int32.toNatClampNeg (12 : Int32))) ||| (2 : Int32)))) a1 a2 a3 a4 v70_5
def f_SR_enterFault_c3 (σ105 : XS) (a1 : Int32) (a2 : Int32) (a3 : Bool) (a4 : Int32) (u3_6 : Int32) (v70_5 : Bool) : XS × Int32 := f_SR_enterFault_c4 (f_SR_noteAddress σ105 u3_6 a4) a1 a2 a3 a4 v70_5
def f_SR_enterFault_70 (σ70 : XS) (a1 : Int32) (a2 : Int32) (a3 : Bool) (a4 : Int32) (v70_5 : Bool) : XS × Int32 := f_SR_enterFault_c3 (xs_values σ70 (upd (x_values σ70) (Int32.toNatClampNeg (13 : Int32)) ((((x_values σ70 (Int32.toNatClampNeg (13 : Int32))) &&& (-805306493 : Int32)) ||| ((f_FA_coprocessorOf σ70 a1) <<< ((28 : Int32) &&& 31))) ||| ((f_FA_codeOf σ70 a1) <<< ((2 : Int32) &&& 31))))) a1 a2 a3 a4 (f_FA_codeOf σ70 a1) v70_5
def f_SR_enterFault_c2 (σ69 : XS) (a1 : Int32) (a2 : Int32) (a3 : Bool) (a4 : Int32) (v68_5 : Bool) : XS × Int32 := f_SR_enterFault_70 σ69 a1 a2 a3 a4 v68_5
def f_SR_enterFault_68 (σ68 : XS) (a1 : Int32) (a2 : Int32) (a3 : Bool) (a4 : Int32) (v68_5 : Bool) (w68_2 : Int32) (w68_3 : Int32) : XS × Int32 := f_SR_enterFault_c2 (xs_values σ68 (upd (x_values σ68) (Int32.toNatClampNeg (13 : Int32)) (w68_2 ||| w68_3))) a1 a2 a3 a4 v68_5
def f_SR_enterFault_c1 (σ41 : XS) (a1 : Int32) (a2 : Int32) (a3 : Bool) (a4 : Int32) (v41_5 : Bool) : XS × Int32 := if (zb a3) = 0 then (f_SR_enterFault_68 σ41 a1 a2 a3 a4 v41_5 ((x_values σ41 (Int32.toNatClampNeg (13 : Int32))) &&& (2147483647 : Int32)) (0 : Int32)) else (f_SR_enterFault_68 σ41 a1 a2 a3 a4 v41_5 ((x_values σ41 (Int32.toNatClampNeg (13 : Int32))) &&& (2147483647 : Int32)) (-2147483648 : Int32))
def f_SR_enterFault_41 (σ : XS) (a1 : Int32) (a2 : Int32) (a3 : Bool) (a4 : Int32) (v41_5 : Bool) (w41_2 : Int32) : XS × Int32 := f_SR_enterFault_c1 (xs_values σ (upd (x_values σ) (Int32.toNatClampNeg (14 : Int32)) w41_2)) a1 a2 a3 a4 v41_5
def f_SR_enterFault_17 (σ : XS) (a1 : Int32) (a2 : Int32) (a3 : Bool) (a4 : Int32) (w17_0 : Bool) : XS × Int32 := if (zb w17_0) = 0 then (f_SR_enterFault_70 σ a1 a2 a3 a4 w17_0) else (if (zb a3) = 0 then (f_SR_enterFault_41 σ a1 a2 a3 a4 w17_0 a2) else (f_SR_enterFault_41 σ a1 a2 a3 a4 w17_0 (a2 - (4 : Int32))))
def f_SR_enterFault (σ : XS) (a1 : Int32) (a2 : Int32) (a3 : Bool) (a4 : Int32) : XS × Int32 := if ((x_values σ (Int32.toNatClampNeg (12 : Int32))) &&& (2 : Int32)) = 0 then (f_SR_enterFault_17 σ a1 a2 a3 a4 true) else (f_SR_enterFault_17 σ a1 a2 a3 a4 false)
theorem d_SR_enterFault_0 : decode b_SR_enterFault 0 = .ok (.aload_n 0, 1) := by decide +kernel
theorem d_SR_enterFault_1 : decode b_SR_enterFault 1 = .ok (.getfield 11, 3) := by decide +kernel
theorem d_SR_enterFault_4 : decode b_SR_enterFault 4 = .ok (.bipush 12, 2) := by decide +kernel
theorem d_SR_enterFault_6 : decode b_SR_enterFault 6 = .ok (.iaload, 1) := by decide +kernel
theorem d_SR_enterFault_7 : decode b_SR_enterFault 7 = .ok (.iconst 2, 1) := by decide +kernel
theorem d_SR_enterFault_8 : decode b_SR_enterFault 8 = .ok (.iand, 1) := by decide +kernel
theorem d_SR_enterFault_9 : decode b_SR_enterFault 9 = .ok (.ifCond .ne 7, 3) := by decide +kernel
theorem d_SR_enterFault_12 : decode b_SR_enterFault 12 = .ok (.iconst 1, 1) := by decide +kernel
theorem d_SR_enterFault_13 : decode b_SR_enterFault 13 = .ok (.goto 4, 3) := by decide +kernel
theorem d_SR_enterFault_16 : decode b_SR_enterFault 16 = .ok (.iconst 0, 1) := by decide +kernel
theorem d_SR_enterFault_17 : decode b_SR_enterFault 17 = .ok (.istore 5, 2) := by decide +kernel
theorem d_SR_enterFault_19 : decode b_SR_enterFault 19 = .ok (.iload 5, 2) := by decide +kernel
theorem d_SR_enterFault_21 : decode b_SR_enterFault 21 = .ok (.ifCond .eq 49, 3) := by decide +kernel
theorem d_SR_enterFault_24 : decode b_SR_enterFault 24 = .ok (.aload_n 0, 1) := by decide +kernel
theorem d_SR_enterFault_25 : decode b_SR_enterFault 25 = .ok (.getfield 11, 3) := by decide +kernel
theorem d_SR_enterFault_28 : decode b_SR_enterFault 28 = .ok (.bipush 14, 2) := by decide +kernel
theorem d_SR_enterFault_30 : decode b_SR_enterFault 30 = .ok (.iload_n 3, 1) := by decide +kernel
theorem d_SR_enterFault_31 : decode b_SR_enterFault 31 = .ok (.ifCond .eq 9, 3) := by decide +kernel
theorem d_SR_enterFault_34 : decode b_SR_enterFault 34 = .ok (.iload_n 2, 1) := by decide +kernel
theorem d_SR_enterFault_35 : decode b_SR_enterFault 35 = .ok (.iconst 4, 1) := by decide +kernel
theorem d_SR_enterFault_36 : decode b_SR_enterFault 36 = .ok (.isub, 1) := by decide +kernel
theorem d_SR_enterFault_37 : decode b_SR_enterFault 37 = .ok (.goto 4, 3) := by decide +kernel
theorem d_SR_enterFault_40 : decode b_SR_enterFault 40 = .ok (.iload_n 2, 1) := by decide +kernel
theorem d_SR_enterFault_41 : decode b_SR_enterFault 41 = .ok (.iastore, 1) := by decide +kernel
theorem d_SR_enterFault_42 : decode b_SR_enterFault 42 = .ok (.aload_n 0, 1) := by decide +kernel
theorem d_SR_enterFault_43 : decode b_SR_enterFault 43 = .ok (.getfield 11, 3) := by decide +kernel
theorem d_SR_enterFault_46 : decode b_SR_enterFault 46 = .ok (.bipush 13, 2) := by decide +kernel
theorem d_SR_enterFault_48 : decode b_SR_enterFault 48 = .ok (.aload_n 0, 1) := by decide +kernel
theorem d_SR_enterFault_49 : decode b_SR_enterFault 49 = .ok (.getfield 11, 3) := by decide +kernel
theorem d_SR_enterFault_52 : decode b_SR_enterFault 52 = .ok (.bipush 13, 2) := by decide +kernel
theorem d_SR_enterFault_54 : decode b_SR_enterFault 54 = .ok (.iaload, 1) := by decide +kernel
theorem d_SR_enterFault_55 : decode b_SR_enterFault 55 = .ok (.ldc 39, 2) := by decide +kernel
theorem d_SR_enterFault_57 : decode b_SR_enterFault 57 = .ok (.iand, 1) := by decide +kernel
theorem d_SR_enterFault_58 : decode b_SR_enterFault 58 = .ok (.iload_n 3, 1) := by decide +kernel
theorem d_SR_enterFault_59 : decode b_SR_enterFault 59 = .ok (.ifCond .eq 8, 3) := by decide +kernel
theorem d_SR_enterFault_62 : decode b_SR_enterFault 62 = .ok (.ldc 38, 2) := by decide +kernel
theorem d_SR_enterFault_64 : decode b_SR_enterFault 64 = .ok (.goto 4, 3) := by decide +kernel
theorem d_SR_enterFault_67 : decode b_SR_enterFault 67 = .ok (.iconst 0, 1) := by decide +kernel
theorem d_SR_enterFault_68 : decode b_SR_enterFault 68 = .ok (.ior, 1) := by decide +kernel
theorem d_SR_enterFault_69 : decode b_SR_enterFault 69 = .ok (.iastore, 1) := by decide +kernel
theorem d_SR_enterFault_70 : decode b_SR_enterFault 70 = .ok (.iload_n 1, 1) := by decide +kernel
theorem d_SR_enterFault_71 : decode b_SR_enterFault 71 = .ok (.invokestatic 40, 3) := by decide +kernel
theorem d_SR_enterFault_74 : decode b_SR_enterFault 74 = .ok (.istore 6, 2) := by decide +kernel
theorem d_SR_enterFault_76 : decode b_SR_enterFault 76 = .ok (.aload_n 0, 1) := by decide +kernel
theorem d_SR_enterFault_77 : decode b_SR_enterFault 77 = .ok (.getfield 11, 3) := by decide +kernel
theorem d_SR_enterFault_80 : decode b_SR_enterFault 80 = .ok (.bipush 13, 2) := by decide +kernel
theorem d_SR_enterFault_82 : decode b_SR_enterFault 82 = .ok (.aload_n 0, 1) := by decide +kernel
theorem d_SR_enterFault_83 : decode b_SR_enterFault 83 = .ok (.getfield 11, 3) := by decide +kernel
theorem d_SR_enterFault_86 : decode b_SR_enterFault 86 = .ok (.bipush 13, 2) := by decide +kernel
theorem d_SR_enterFault_88 : decode b_SR_enterFault 88 = .ok (.iaload, 1) := by decide +kernel
theorem d_SR_enterFault_89 : decode b_SR_enterFault 89 = .ok (.ldc 45, 2) := by decide +kernel
theorem d_SR_enterFault_91 : decode b_SR_enterFault 91 = .ok (.iand, 1) := by decide +kernel
theorem d_SR_enterFault_92 : decode b_SR_enterFault 92 = .ok (.iload_n 1, 1) := by decide +kernel
theorem d_SR_enterFault_93 : decode b_SR_enterFault 93 = .ok (.invokestatic 46, 3) := by decide +kernel
theorem d_SR_enterFault_96 : decode b_SR_enterFault 96 = .ok (.bipush 28, 2) := by decide +kernel
theorem d_SR_enterFault_98 : decode b_SR_enterFault 98 = .ok (.ishl, 1) := by decide +kernel
theorem d_SR_enterFault_99 : decode b_SR_enterFault 99 = .ok (.ior, 1) := by decide +kernel
theorem d_SR_enterFault_100 : decode b_SR_enterFault 100 = .ok (.iload 6, 2) := by decide +kernel
theorem d_SR_enterFault_102 : decode b_SR_enterFault 102 = .ok (.iconst 2, 1) := by decide +kernel
theorem d_SR_enterFault_103 : decode b_SR_enterFault 103 = .ok (.ishl, 1) := by decide +kernel
theorem d_SR_enterFault_104 : decode b_SR_enterFault 104 = .ok (.ior, 1) := by decide +kernel
theorem d_SR_enterFault_105 : decode b_SR_enterFault 105 = .ok (.iastore, 1) := by decide +kernel
theorem d_SR_enterFault_106 : decode b_SR_enterFault 106 = .ok (.aload_n 0, 1) := by decide +kernel
theorem d_SR_enterFault_107 : decode b_SR_enterFault 107 = .ok (.iload 6, 2) := by decide +kernel
theorem d_SR_enterFault_109 : decode b_SR_enterFault 109 = .ok (.iload 4, 2) := by decide +kernel
theorem d_SR_enterFault_111 : decode b_SR_enterFault 111 = .ok (.invokevirtual 49, 3) := by decide +kernel
theorem d_SR_enterFault_114 : decode b_SR_enterFault 114 = .ok (.aload_n 0, 1) := by decide +kernel
theorem d_SR_enterFault_115 : decode b_SR_enterFault 115 = .ok (.getfield 11, 3) := by decide +kernel
theorem d_SR_enterFault_118 : decode b_SR_enterFault 118 = .ok (.bipush 12, 2) := by decide +kernel
theorem d_SR_enterFault_120 : decode b_SR_enterFault 120 = .ok (.dup2, 1) := by decide +kernel
theorem d_SR_enterFault_121 : decode b_SR_enterFault 121 = .ok (.iaload, 1) := by decide +kernel
theorem d_SR_enterFault_122 : decode b_SR_enterFault 122 = .ok (.iconst 2, 1) := by decide +kernel
theorem d_SR_enterFault_123 : decode b_SR_enterFault 123 = .ok (.ior, 1) := by decide +kernel
theorem d_SR_enterFault_124 : decode b_SR_enterFault 124 = .ok (.iastore, 1) := by decide +kernel
theorem d_SR_enterFault_125 : decode b_SR_enterFault 125 = .ok (.iload 5, 2) := by decide +kernel
theorem d_SR_enterFault_127 : decode b_SR_enterFault 127 = .ok (.ifCond .eq 15, 3) := by decide +kernel
theorem d_SR_enterFault_130 : decode b_SR_enterFault 130 = .ok (.iload_n 1, 1) := by decide +kernel
theorem d_SR_enterFault_131 : decode b_SR_enterFault 131 = .ok (.invokestatic 53, 3) := by decide +kernel
theorem d_SR_enterFault_134 : decode b_SR_enterFault 134 = .ok (.ifCond .eq 8, 3) := by decide +kernel
theorem d_SR_enterFault_137 : decode b_SR_enterFault 137 = .ok (.ldc 38, 2) := by decide +kernel
theorem d_SR_enterFault_139 : decode b_SR_enterFault 139 = .ok (.goto 5, 3) := by decide +kernel
theorem d_SR_enterFault_142 : decode b_SR_enterFault 142 = .ok (.ldc 57, 2) := by decide +kernel
theorem d_SR_enterFault_144 : decode b_SR_enterFault 144 = .ok (.ireturn, 1) := by decide +kernel
set_option maxHeartbeats 4000000 in
set_option maxRecDepth 100000 in
theorem c_SR_enterFault (l : Launch) (E : Ev) (ad : Nat → Nat) (σ : XS) (a1 : Int32) (a2 : Int32) (a3 : Bool) (a4 : Int32) : rC xCl l E (xW E ad) y_SR_enterFault b_SR_enterFault 7 (Option.some Jvm.ClassFile.FieldType.int) (rmo 1 23) [.ref (ad 2), .int a1, .int a2, .int (zb a3), .int a4] σ (zI (f_SR_enterFault σ a1 a2 a3 a4)) := by
  refine rC.of (by decide) (Nat.le_of_ble_eq_true rfl) ?_
  intro p e s m below meth c A ls hc w hl
  generalize e0 : zI (f_SR_enterFault σ a1 a2 a3 a4) = Z
  have hc : Cx xCl E A p s m ([.ref (ad 2), .int a1, .int a2, .int (zb a3), .int a4] : List Value).toArray meth c b_SR_enterFault 7 (Option.some Jvm.ClassFile.FieldType.int) "PageMachine$SystemRegisters" := hc
  have hx := hc.1
  have hb := hc.2.1
  have ho := hc.2.2.2.2.2.1
  have hT := hc.2.2.2.2.2.2.1
  have hl : lv_has ls 7 [(0, .ref (ad 2)), (1, .int a1), (2, .int a2), (3, .int (zb a3)), (4, .int a4)] := hl
  have J70 : ∀ (σ70 : XS) (v70_5 : Bool) (H : Heap) (locs : List Loc) (ls : Array Slot), Wd xCl E A s.heap H locs (xW E ad σ70) → lv_has ls 7 [(5, .int (zb v70_5)), (0, .ref (ad 2)), (1, .int a1), (4, .int a4)] → zI (f_SR_enterFault_70 σ70 a1 a2 a3 a4 v70_5) = Z → W p l e (rmo 1 23) s m ([.ref (ad 2), .int a1, .int a2, .int (zb a3), .int a4] : List Value).toArray below meth c H locs 0 0 (MQ below (rQ xCl (xW E ad) E A Z) ([.ref (ad 2), .int a1, .int a2, .int (zb a3), .int a4] : List Value).toArray s 0 0 A) (F0 m 70 ls []) := by
    intro σ70 v70_5 H locs ls w hl e70
    refine lv_iload_n hx hb d_SR_enterFault_70 rfl (lv_at hl 2 rfl) ?_
    refine rSI (rest := []) hc w (c_FA_codeOf l E ad σ70 a1) ks_FA_codeOf mw_475 ⟨Nat.le_of_ble_eq_true rfl, Nat.le_of_ble_eq_true rfl⟩ hl.1 rfl (Nat.le_of_ble_eq_true rfl) ⟨Nat.zero_le _, Nat.zero_le _⟩ d_SR_enterFault_71 (fun H locs w => ?_)
    refine lv_istore (lv' := [(6, .int (f_FA_codeOf σ70 a1)), (5, .int (zb v70_5)), (0, .ref (ad 2)), (1, .int a1), (4, .int a4)]) hx hb d_SR_enterFault_74 hl (by decide) rfl (fun ls hl => ?_)
    refine lv_aload_n hx hb d_SR_enterFault_76 rfl (lv_at hl 2 rfl) ?_
    refine g_SR_values hc w mw_47 d_SR_enterFault_77 ?_
    refine lv_bipush (v := 13) hx hb d_SR_enterFault_80 (by decide) ?_
    refine lv_aload_n hx hb d_SR_enterFault_82 rfl (lv_at hl 2 rfl) ?_
    refine g_SR_values hc w mw_47 d_SR_enterFault_83 ?_
    refine lv_bipush (v := 13) hx hb d_SR_enterFault_86 (by decide) ?_
    refine a_SR_values hc w (by unfold vp_in; decide) d_SR_enterFault_88 ?_
    refine lv_ldc (v := -805306493) hx hb ho (hT _ mw_476) d_SR_enterFault_89 ?_
    refine lv_iand hx hb d_SR_enterFault_91 ?_
    refine lv_iload_n hx hb d_SR_enterFault_92 rfl (lv_at hl 3 rfl) ?_
    refine rSI (rest := [.int ((x_values σ70 (Int32.toNatClampNeg (13 : Int32))) &&& (-805306493 : Int32)), .int (13 : Int32), .ref (ad 12)]) hc w (c_FA_coprocessorOf l E ad σ70 a1) ks_FA_coprocessorOf mw_477 ⟨Nat.le_of_ble_eq_true rfl, Nat.le_of_ble_eq_true rfl⟩ hl.1 rfl (Nat.le_of_ble_eq_true rfl) ⟨Nat.zero_le _, Nat.zero_le _⟩ d_SR_enterFault_93 (fun H locs w => ?_)
    refine lv_bipush (v := 28) hx hb d_SR_enterFault_96 (by decide) ?_
    refine lv_ishl hx hb d_SR_enterFault_98 ?_
    refine lv_ior hx hb d_SR_enterFault_99 ?_
    refine lv_iload hx hb d_SR_enterFault_100 (lv_at hl 0 rfl) ?_
    refine lv_iconst (v := 2) hx hb d_SR_enterFault_102 (by decide) ?_
    refine lv_ishl hx hb d_SR_enterFault_103 ?_
    refine lv_ior hx hb d_SR_enterFault_104 ?_
    refine s_SR_values hc w (by unfold vp_in; decide) d_SR_enterFault_105 (fun σ105 H locs hs105 w => ?_)
    generalize hv_u3_6 : f_FA_codeOf σ70 a1 = u3_6 at hl ⊢
    have e_c3 : zI (f_SR_enterFault_c3 σ105 a1 a2 a3 a4 u3_6 v70_5) = Z := by rw [← e70, f_SR_enterFault_70, hs105, hv_u3_6]
    refine lv_aload_n hx hb d_SR_enterFault_106 rfl (lv_at hl 2 rfl) ?_
    refine lv_iload hx hb d_SR_enterFault_107 (lv_at hl 0 rfl) ?_
    refine lv_iload hx hb d_SR_enterFault_109 (lv_at hl 4 rfl) ?_
    refine cVV (rest := []) hc w (c_SR_noteAddress l E ad σ105 u3_6 a4) kv_SR_noteAddress mw_480 2 rfl rfl ⟨Nat.le_of_ble_eq_true rfl, Nat.le_of_ble_eq_true rfl⟩ hl.1 rfl (Nat.le_of_ble_eq_true rfl) ⟨Nat.zero_le _, Nat.zero_le _⟩ d_SR_enterFault_111 (fun z111 H locs hs111 w => ?_)
    have e_c4 : zI (f_SR_enterFault_c4 z111 a1 a2 a3 a4 v70_5) = Z := by rw [← e_c3, f_SR_enterFault_c3, hs111]
    refine lv_aload_n hx hb d_SR_enterFault_114 rfl (lv_at hl 2 rfl) ?_
    refine g_SR_values hc w mw_47 d_SR_enterFault_115 ?_
    refine lv_bipush (v := 12) hx hb d_SR_enterFault_118 (by decide) ?_
    refine lv_dup2_11 hx hb d_SR_enterFault_120 rfl rfl ?_
    refine a_SR_values hc w (by unfold vp_in; decide) d_SR_enterFault_121 ?_
    refine lv_iconst (v := 2) hx hb d_SR_enterFault_122 (by decide) ?_
    refine lv_ior hx hb d_SR_enterFault_123 ?_
    refine s_SR_values hc w (by unfold vp_in; decide) d_SR_enterFault_124 (fun σ124 H locs hs124 w => ?_)
    have e_c5 : zI (f_SR_enterFault_c5 σ124 a1 a2 a3 a4 v70_5) = Z := by rw [← e_c4, f_SR_enterFault_c4, hs124]
    refine lv_iload hx hb d_SR_enterFault_125 (lv_at hl 1 rfl) ?_
    refine lv_if_eq (tgt := 142) hx hb d_SR_enterFault_127 (by decide) (fun q127 => ?_) (fun q127 => ?_)
    · refine lv_ldc (v := -2147483264) hx hb ho (hT _ mw_487) d_SR_enterFault_142 ?_
      exact rt_i hc w d_SR_enterFault_144 (by rw [← e_c5, f_SR_enterFault_c5, if_pos q127] <;> rfl)
    · refine lv_iload_n hx hb d_SR_enterFault_130 rfl (lv_at hl 3 rfl) ?_
      refine rSZ (rest := []) hc w (c_FA_isRefill l E ad σ124 a1) ks_FA_isRefill mw_484 ⟨Nat.le_of_ble_eq_true rfl, Nat.le_of_ble_eq_true rfl⟩ hl.1 rfl (Nat.le_of_ble_eq_true rfl) ⟨Nat.zero_le _, Nat.zero_le _⟩ d_SR_enterFault_131 (fun H locs w => ?_)
      refine lv_if_eq (tgt := 142) hx hb d_SR_enterFault_134 (by decide) (fun q134 => ?_) (fun q134 => ?_)
      · refine lv_ldc (v := -2147483264) hx hb ho (hT _ mw_487) d_SR_enterFault_142 ?_
        exact rt_i hc w d_SR_enterFault_144 (by rw [← e_c5, f_SR_enterFault_c5, if_neg q127, if_pos q134] <;> rfl)
      · refine lv_ldc (v := -2147483648) hx hb ho (hT _ mw_474) d_SR_enterFault_137 ?_
        refine lv_goto (tgt := 144) hx hb d_SR_enterFault_139 (by decide) ?_
        exact rt_i hc w d_SR_enterFault_144 (by rw [← e_c5, f_SR_enterFault_c5, if_neg q127, if_neg q134] <;> rfl)
  have J68 : ∀ (σ68 : XS) (v68_5 : Bool) (w68_2 : Int32) (w68_3 : Int32) (H : Heap) (locs : List Loc) (ls : Array Slot), Wd xCl E A s.heap H locs (xW E ad σ68) → lv_has ls 7 [(5, .int (zb v68_5)), (0, .ref (ad 2)), (1, .int a1), (4, .int a4)] → zI (f_SR_enterFault_68 σ68 a1 a2 a3 a4 v68_5 w68_2 w68_3) = Z → W p l e (rmo 1 23) s m ([.ref (ad 2), .int a1, .int a2, .int (zb a3), .int a4] : List Value).toArray below meth c H locs 0 0 (MQ below (rQ xCl (xW E ad) E A Z) ([.ref (ad 2), .int a1, .int a2, .int (zb a3), .int a4] : List Value).toArray s 0 0 A) (F0 m 68 ls [.int w68_3, .int w68_2, .int (13 : Int32), .ref (ad 12)]) := by
    intro σ68 v68_5 w68_2 w68_3 H locs ls w hl e68
    refine lv_ior hx hb d_SR_enterFault_68 ?_
    refine s_SR_values hc w (by unfold vp_in; decide) d_SR_enterFault_69 (fun σ69 H locs hs69 w => ?_)
    have e_c2 : zI (f_SR_enterFault_c2 σ69 a1 a2 a3 a4 v68_5) = Z := by rw [← e68, f_SR_enterFault_68, hs69]
    exact J70 σ69 v68_5 _ _ _ w (lv_sub hl [0, 1, 2, 3] rfl) (by rw [← e_c2, f_SR_enterFault_c2])
  have J41 : ∀ (v41_5 : Bool) (w41_2 : Int32) (H : Heap) (locs : List Loc) (ls : Array Slot), Wd xCl E A s.heap H locs (xW E ad σ) → lv_has ls 7 [(5, .int (zb v41_5)), (0, .ref (ad 2)), (1, .int a1), (3, .int (zb a3)), (4, .int a4)] → zI (f_SR_enterFault_41 σ a1 a2 a3 a4 v41_5 w41_2) = Z → W p l e (rmo 1 23) s m ([.ref (ad 2), .int a1, .int a2, .int (zb a3), .int a4] : List Value).toArray below meth c H locs 0 0 (MQ below (rQ xCl (xW E ad) E A Z) ([.ref (ad 2), .int a1, .int a2, .int (zb a3), .int a4] : List Value).toArray s 0 0 A) (F0 m 41 ls [.int w41_2, .int (14 : Int32), .ref (ad 12)]) := by
    intro v41_5 w41_2 H locs ls w hl e41
    refine s_SR_values hc w (by unfold vp_in; decide) d_SR_enterFault_41 (fun σ41 H locs hs41 w => ?_)
    have e_c1 : zI (f_SR_enterFault_c1 σ41 a1 a2 a3 a4 v41_5) = Z := by rw [← e41, f_SR_enterFault_41, hs41]
    refine lv_aload_n hx hb d_SR_enterFault_42 rfl (lv_at hl 1 rfl) ?_
    refine g_SR_values hc w mw_47 d_SR_enterFault_43 ?_
    refine lv_bipush (v := 13) hx hb d_SR_enterFault_46 (by decide) ?_
    refine lv_aload_n hx hb d_SR_enterFault_48 rfl (lv_at hl 1 rfl) ?_
    refine g_SR_values hc w mw_47 d_SR_enterFault_49 ?_
    refine lv_bipush (v := 13) hx hb d_SR_enterFault_52 (by decide) ?_
    refine a_SR_values hc w (by unfold vp_in; decide) d_SR_enterFault_54 ?_
    refine lv_ldc (v := 2147483647) hx hb ho (hT _ mw_473) d_SR_enterFault_55 ?_
    refine lv_iand hx hb d_SR_enterFault_57 ?_
    refine lv_iload_n hx hb d_SR_enterFault_58 rfl (lv_at hl 3 rfl) ?_
    refine lv_if_eq (tgt := 67) hx hb d_SR_enterFault_59 (by decide) (fun q59 => ?_) (fun q59 => ?_)
    · refine lv_iconst (v := 0) hx hb d_SR_enterFault_67 (by decide) ?_
      exact J68 σ41 v41_5 ((x_values σ41 (Int32.toNatClampNeg (13 : Int32))) &&& (2147483647 : Int32)) (0 : Int32) _ _ _ w (lv_sub hl [0, 1, 2, 4] rfl) (by rw [← e_c1, f_SR_enterFault_c1, if_pos q59])
    · refine lv_ldc (v := -2147483648) hx hb ho (hT _ mw_474) d_SR_enterFault_62 ?_
      refine lv_goto (tgt := 68) hx hb d_SR_enterFault_64 (by decide) ?_
      exact J68 σ41 v41_5 ((x_values σ41 (Int32.toNatClampNeg (13 : Int32))) &&& (2147483647 : Int32)) (-2147483648 : Int32) _ _ _ w (lv_sub hl [0, 1, 2, 4] rfl) (by rw [← e_c1, f_SR_enterFault_c1, if_neg q59])
  have J17 : ∀ (w17_0 : Bool) (H : Heap) (locs : List Loc) (ls : Array Slot), Wd xCl E A s.heap H locs (xW E ad σ) → lv_has ls 7 [(0, .ref (ad 2)), (1, .int a1), (2, .int a2), (3, .int (zb a3)), (4, .int a4)] → zI (f_SR_enterFault_17 σ a1 a2 a3 a4 w17_0) = Z → W p l e (rmo 1 23) s m ([.ref (ad 2), .int a1, .int a2, .int (zb a3), .int a4] : List Value).toArray below meth c H locs 0 0 (MQ below (rQ xCl (xW E ad) E A Z) ([.ref (ad 2), .int a1, .int a2, .int (zb a3), .int a4] : List Value).toArray s 0 0 A) (F0 m 17 ls [.int (zb w17_0)]) := by
    intro w17_0 H locs ls w hl e17
    refine lv_istore (lv' := [(5, .int (zb w17_0)), (0, .ref (ad 2)), (1, .int a1), (2, .int a2), (3, .int (zb a3)), (4, .int a4)]) hx hb d_SR_enterFault_17 hl (by decide) rfl (fun ls hl => ?_)
    refine lv_iload hx hb d_SR_enterFault_19 (lv_at hl 0 rfl) ?_
    refine lv_if_eq (tgt := 70) hx hb d_SR_enterFault_21 (by decide) (fun q21 => ?_) (fun q21 => ?_)
    · exact J70 σ w17_0 _ _ _ w (lv_sub hl [0, 1, 2, 5] rfl) (by rw [← e17, f_SR_enterFault_17, if_pos q21])
    · refine lv_aload_n hx hb d_SR_enterFault_24 rfl (lv_at hl 1 rfl) ?_
      refine g_SR_values hc w mw_47 d_SR_enterFault_25 ?_
      refine lv_bipush (v := 14) hx hb d_SR_enterFault_28 (by decide) ?_
      refine lv_iload_n hx hb d_SR_enterFault_30 rfl (lv_at hl 4 rfl) ?_
      refine lv_if_eq (tgt := 40) hx hb d_SR_enterFault_31 (by decide) (fun q31 => ?_) (fun q31 => ?_)
      · refine lv_iload_n hx hb d_SR_enterFault_40 rfl (lv_at hl 3 rfl) ?_
        exact J41 w17_0 a2 _ _ _ w (lv_sub hl [0, 1, 2, 4, 5] rfl) (by rw [← e17, f_SR_enterFault_17, if_neg q21, if_pos q31])
      · refine lv_iload_n hx hb d_SR_enterFault_34 rfl (lv_at hl 3 rfl) ?_
        refine lv_iconst (v := 4) hx hb d_SR_enterFault_35 (by decide) ?_
        refine lv_isub hx hb d_SR_enterFault_36 ?_
        refine lv_goto (tgt := 41) hx hb d_SR_enterFault_37 (by decide) ?_
        exact J41 w17_0 (a2 - (4 : Int32)) _ _ _ w (lv_sub hl [0, 1, 2, 4, 5] rfl) (by rw [← e17, f_SR_enterFault_17, if_neg q21, if_neg q31])
  refine lv_aload_n hx hb d_SR_enterFault_0 rfl (lv_at hl 0 rfl) ?_
  refine g_SR_values hc w mw_47 d_SR_enterFault_1 ?_
  refine lv_bipush (v := 12) hx hb d_SR_enterFault_4 (by decide) ?_
  refine a_SR_values hc w (by unfold vp_in; decide) d_SR_enterFault_6 ?_
  refine lv_iconst (v := 2) hx hb d_SR_enterFault_7 (by decide) ?_
  refine lv_iand hx hb d_SR_enterFault_8 ?_
  refine lv_if_ne (tgt := 16) hx hb d_SR_enterFault_9 (by decide) (fun q9 => ?_) (fun q9 => ?_)
  · refine lv_iconst (v := 0) hx hb d_SR_enterFault_16 (by decide) ?_
    exact J17 false _ _ _ w (lv_sub hl [0, 1, 2, 3, 4] rfl) (by rw [← e0, f_SR_enterFault, if_neg q9])
  · refine lv_iconst (v := 1) hx hb d_SR_enterFault_12 (by decide) ?_
    refine lv_goto (tgt := 17) hx hb d_SR_enterFault_13 (by decide) ?_
    exact J17 true _ _ _ w (lv_sub hl [0, 1, 2, 3, 4] rfl) (by rw [← e0, f_SR_enterFault, if_pos q9])
