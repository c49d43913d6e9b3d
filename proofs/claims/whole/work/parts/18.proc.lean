-- PR_steps
def f_PR_steps (σ : XS) : Int32 := x_steps σ
theorem d_PR_steps_0 : decode b_PR_steps 0 = .ok (.aload_n 0, 1) := by decide +kernel
theorem d_PR_steps_1 : decode b_PR_steps 1 = .ok (.getfield 65, 3) := by decide +kernel
theorem d_PR_steps_4 : decode b_PR_steps 4 = .ok (.ireturn, 1) := by decide +kernel
set_option maxHeartbeats 4000000 in
set_option maxRecDepth 100000 in
theorem c_PR_steps (l : Launch) (E : Ev) (ad : Nat → Nat) (σ : XS) : rC xCl l E (xW E ad) y_PR_steps b_PR_steps 1 (Option.some Jvm.ClassFile.FieldType.int) (rmo 0 0) [.ref (ad 6)] σ ((σ, some (Value.int (f_PR_steps σ)))) := by
  refine rC.of (by decide) (Nat.le_of_ble_eq_true rfl) ?_
  intro p e s m below meth c A ls hc w hl
  generalize e0 : (σ, some (Value.int (f_PR_steps σ))) = Z
  have hc : Cx xCl E A p s m ([.ref (ad 6)] : List Value).toArray meth c b_PR_steps 1 (Option.some Jvm.ClassFile.FieldType.int) "PageMachine$Processor" := hc
  have hx := hc.1
  have hb := hc.2.1
  have ho := hc.2.2.2.2.2.1
  have hT := hc.2.2.2.2.2.2.1
  have hl : lv_has ls 1 [(0, .ref (ad 6))] := hl
  refine lv_aload_n hx hb d_PR_steps_0 rfl (lv_at hl 0 rfl) ?_
  refine g_PR_stepsDone hc w mw_216 d_PR_steps_1 ?_
  exact rt_i hc w d_PR_steps_4 (by rw [← e0, f_PR_steps] <;> rfl)
-- PR_faultsWith
theorem bd_in {x M : Int32} {N : Nat} (h0 : ¬ x < 0) (h : ¬ M ≤ x) (hM : M.toInt = N) : vp_in x N := by
  rw [Int32.lt_iff_toInt_lt] at h0
  rw [Int32.le_iff_toInt_le] at h
  have h1 : (0 : Int32).toInt = 0 := rfl
  exact vp_in_iff.mpr ⟨by omega, by omega⟩
def f_PR_faultsWith (σ : XS) (a1 : Int32) : Int32 := if a1 < 0 then ((0 : Int32)) else (if (14 : Int32) ≤ a1 then ((0 : Int32)) else (x_fbc σ (Int32.toNatClampNeg a1)))
theorem d_PR_faultsWith_0 : decode b_PR_faultsWith 0 = .ok (.iload_n 1, 1) := by decide +kernel
theorem d_PR_faultsWith_1 : decode b_PR_faultsWith 1 = .ok (.ifCond .lt 18, 3) := by decide +kernel
theorem d_PR_faultsWith_4 : decode b_PR_faultsWith 4 = .ok (.iload_n 1, 1) := by decide +kernel
theorem d_PR_faultsWith_5 : decode b_PR_faultsWith 5 = .ok (.bipush 14, 2) := by decide +kernel
theorem d_PR_faultsWith_7 : decode b_PR_faultsWith 7 = .ok (.if_icmp .ge 12, 3) := by decide +kernel
theorem d_PR_faultsWith_10 : decode b_PR_faultsWith 10 = .ok (.aload_n 0, 1) := by decide +kernel
theorem d_PR_faultsWith_11 : decode b_PR_faultsWith 11 = .ok (.getfield 9, 3) := by decide +kernel
theorem d_PR_faultsWith_14 : decode b_PR_faultsWith 14 = .ok (.iload_n 1, 1) := by decide +kernel
theorem d_PR_faultsWith_15 : decode b_PR_faultsWith 15 = .ok (.iaload, 1) := by decide +kernel
theorem d_PR_faultsWith_16 : decode b_PR_faultsWith 16 = .ok (.goto 4, 3) := by decide +kernel
theorem d_PR_faultsWith_19 : decode b_PR_faultsWith 19 = .ok (.iconst 0, 1) := by decide +kernel
theorem d_PR_faultsWith_20 : decode b_PR_faultsWith 20 = .ok (.ireturn, 1) := by decide +kernel
set_option maxHeartbeats 4000000 in
set_option maxRecDepth 100000 in
theorem c_PR_faultsWith (l : Launch) (E : Ev) (ad : Nat → Nat) (σ : XS) (a1 : Int32) : rC xCl l E (xW E ad) y_PR_faultsWith b_PR_faultsWith 2 (Option.some Jvm.ClassFile.FieldType.int) (rmo 0 0) [.ref (ad 6), .int a1] σ ((σ, some (Value.int (f_PR_faultsWith σ a1)))) := by
  refine rC.of (by decide) (Nat.le_of_ble_eq_true rfl) ?_
  intro p e s m below meth c A ls hc w hl
  generalize e0 : (σ, some (Value.int (f_PR_faultsWith σ a1))) = Z
  have hc : Cx xCl E A p s m ([.ref (ad 6), .int a1] : List Value).toArray meth c b_PR_faultsWith 2 (Option.some Jvm.ClassFile.FieldType.int) "PageMachine$Processor" := hc
  have hx := hc.1
  have hb := hc.2.1
  have ho := hc.2.2.2.2.2.1
  have hT := hc.2.2.2.2.2.2.1
  have hl : lv_has ls 2 [(0, .ref (ad 6)), (1, .int a1)] := hl
  refine lv_iload_n hx hb d_PR_faultsWith_0 rfl (lv_at hl 1 rfl) ?_
  refine lv_if_lt (tgt := 19) hx hb d_PR_faultsWith_1 (by decide) (fun q1 => ?_) (fun q1 => ?_)
  · refine lv_iconst (v := 0) hx hb d_PR_faultsWith_19 (by decide) ?_
    exact rt_i hc w d_PR_faultsWith_20 (by rw [← e0, f_PR_faultsWith, if_pos q1] <;> rfl)
  · refine lv_iload_n hx hb d_PR_faultsWith_4 rfl (lv_at hl 1 rfl) ?_
    refine lv_bipush (v := 14) hx hb d_PR_faultsWith_5 (by decide) ?_
    refine lv_icmp_ge (tgt := 19) hx hb d_PR_faultsWith_7 (by decide) (fun q7 => ?_) (fun q7 => ?_)
    · refine lv_iconst (v := 0) hx hb d_PR_faultsWith_19 (by decide) ?_
      exact rt_i hc w d_PR_faultsWith_20 (by rw [← e0, f_PR_faultsWith, if_neg q1, if_pos q7] <;> rfl)
    · refine lv_aload_n hx hb d_PR_faultsWith_10 rfl (lv_at hl 0 rfl) ?_
      refine g_PR_faultsByCode hc w mw_215 d_PR_faultsWith_11 ?_
      refine lv_iload_n hx hb d_PR_faultsWith_14 rfl (lv_at hl 1 rfl) ?_
      refine a_PR_faultsByCode hc w (bd_in q1 q7 (by decide)) d_PR_faultsWith_15 ?_
      refine lv_goto (tgt := 20) hx hb d_PR_faultsWith_16 (by decide) ?_
      exact rt_i hc w d_PR_faultsWith_20 (by rw [← e0, f_PR_faultsWith, if_neg q1, if_neg q7] <;> rfl)
-- PR_enter
theorem bd_code {x M : Int32} {N : Nat} (h : ¬ M ≤ x &&& 15) (hM : M.toInt = N) : vp_in (x &&& 15) N := by
  refine bd_in ?_ h hM
  rw [pk_and x 4 (by decide)]
  exact nI_pos (by omega)
def f_PR_enter_c3 (z54 : XS) (a1 : Int32)  : XS := z54
def f_PR_enter_c2 (z51 : XS × Int32) (a1 : Int32)  : XS := f_PR_enter_c3 (f_CO_restartAt z51.1 z51.2) a1 
def f_PR_enter_21 (σ21 : XS) (a1 : Int32) : XS := f_PR_enter_c2 (f_SR_enterFault σ21 a1 (x_pc σ21) (x_inds σ21) (f_AS_lastAsked σ21)) a1 
def f_PR_enter_c1 (σ20 : XS) (a1 : Int32)  : XS := f_PR_enter_21 σ20 a1
def f_PR_enter (σ : XS) (a1 : Int32) : XS := if (14 : Int32) ≤ (f_FA_codeOf σ a1) then (f_PR_enter_21 σ a1) else (f_PR_enter_c1 (xs_fbc σ (upd (x_fbc σ) (Int32.toNatClampNeg (f_FA_codeOf σ a1)) ((x_fbc σ (Int32.toNatClampNeg (f_FA_codeOf σ a1))) + (1 : Int32)))) a1 )
theorem d_PR_enter_0 : decode b_PR_enter 0 = .ok (.iload_n 1, 1) := by decide +kernel
theorem d_PR_enter_1 : decode b_PR_enter 1 = .ok (.invokestatic 101, 3) := by decide +kernel
theorem d_PR_enter_4 : decode b_PR_enter 4 = .ok (.istore_n 2, 1) := by decide +kernel
theorem d_PR_enter_5 : decode b_PR_enter 5 = .ok (.iload_n 2, 1) := by decide +kernel
theorem d_PR_enter_6 : decode b_PR_enter 6 = .ok (.bipush 14, 2) := by decide +kernel
theorem d_PR_enter_8 : decode b_PR_enter 8 = .ok (.if_icmp .ge 13, 3) := by decide +kernel
theorem d_PR_enter_11 : decode b_PR_enter 11 = .ok (.aload_n 0, 1) := by decide +kernel
theorem d_PR_enter_12 : decode b_PR_enter 12 = .ok (.getfield 9, 3) := by decide +kernel
theorem d_PR_enter_15 : decode b_PR_enter 15 = .ok (.iload_n 2, 1) := by decide +kernel
theorem d_PR_enter_16 : decode b_PR_enter 16 = .ok (.dup2, 1) := by decide +kernel
theorem d_PR_enter_17 : decode b_PR_enter 17 = .ok (.iaload, 1) := by decide +kernel
theorem d_PR_enter_18 : decode b_PR_enter 18 = .ok (.iconst 1, 1) := by decide +kernel
theorem d_PR_enter_19 : decode b_PR_enter 19 = .ok (.iadd, 1) := by decide +kernel
theorem d_PR_enter_20 : decode b_PR_enter 20 = .ok (.iastore, 1) := by decide +kernel
theorem d_PR_enter_21 : decode b_PR_enter 21 = .ok (.aload_n 0, 1) := by decide +kernel
theorem d_PR_enter_22 : decode b_PR_enter 22 = .ok (.getfield 15, 3) := by decide +kernel
theorem d_PR_enter_25 : decode b_PR_enter 25 = .ok (.aload_n 0, 1) := by decide +kernel
theorem d_PR_enter_26 : decode b_PR_enter 26 = .ok (.getfield 23, 3) := by decide +kernel
theorem d_PR_enter_29 : decode b_PR_enter 29 = .ok (.iload_n 1, 1) := by decide +kernel
theorem d_PR_enter_30 : decode b_PR_enter 30 = .ok (.aload_n 0, 1) := by decide +kernel
theorem d_PR_enter_31 : decode b_PR_enter 31 = .ok (.getfield 15, 3) := by decide +kernel
theorem d_PR_enter_34 : decode b_PR_enter 34 = .ok (.getfield 104, 3) := by decide +kernel
theorem d_PR_enter_37 : decode b_PR_enter 37 = .ok (.aload_n 0, 1) := by decide +kernel
theorem d_PR_enter_38 : decode b_PR_enter 38 = .ok (.getfield 15, 3) := by decide +kernel
theorem d_PR_enter_41 : decode b_PR_enter 41 = .ok (.getfield 107, 3) := by decide +kernel
theorem d_PR_enter_44 : decode b_PR_enter 44 = .ok (.aload_n 0, 1) := by decide +kernel
theorem d_PR_enter_45 : decode b_PR_enter 45 = .ok (.getfield 27, 3) := by decide +kernel
theorem d_PR_enter_48 : decode b_PR_enter 48 = .ok (.invokevirtual 111, 3) := by decide +kernel
theorem d_PR_enter_51 : decode b_PR_enter 51 = .ok (.invokevirtual 116, 3) := by decide +kernel
theorem d_PR_enter_54 : decode b_PR_enter 54 = .ok (.invokevirtual 120, 3) := by decide +kernel
theorem d_PR_enter_57 : decode b_PR_enter 57 = .ok (.return_, 1) := by decide +kernel
set_option maxHeartbeats 4000000 in
set_option maxRecDepth 100000 in
theorem c_PR_enter (l : Launch) (E : Ev) (ad : Nat → Nat) (σ : XS) (a1 : Int32) : rC xCl l E (xW E ad) y_PR_enter b_PR_enter 3 (Option.none : Option Jvm.ClassFile.FieldType) (rmo 2 49) [.ref (ad 6), .int a1] σ (zV (f_PR_enter σ a1)) := by
  refine rC.of (by decide) (Nat.le_of_ble_eq_true rfl) ?_
  intro p e s m below meth c A ls hc w hl
  generalize e0 : zV (f_PR_enter σ a1) = Z
  have hc : Cx xCl E A p s m ([.ref (ad 6), .int a1] : List Value).toArray meth c b_PR_enter 3 (Option.none : Option Jvm.ClassFile.FieldType) "PageMachine$Processor" := hc
  have hx := hc.1
  have hb := hc.2.1
  have ho := hc.2.2.2.2.2.1
  have hT := hc.2.2.2.2.2.2.1
  have hl : lv_has ls 3 [(0, .ref (ad 6)), (1, .int a1)] := hl
  have J21 : ∀ (σ21 : XS) (H : Heap) (locs : List Loc) (ls : Array Slot), Wd xCl E A s.heap H locs (xW E ad σ21) → lv_has ls 3 [(0, .ref (ad 6)), (1, .int a1)] → zV (f_PR_enter_21 σ21 a1) = Z → W p l e (rmo 2 49) s m ([.ref (ad 6), .int a1] : List Value).toArray below meth c H locs 0 0 (MQ below (rQ xCl (xW E ad) E A Z) ([.ref (ad 6), .int a1] : List Value).toArray s 0 0 A) (F0 m 21 ls []) := by
    intro σ21 H locs ls w hl e21
    refine lv_aload_n hx hb d_PR_enter_21 rfl (lv_at hl 0 rfl) ?_
    refine g_PR_core hc w mw_207 d_PR_enter_22 ?_
    refine lv_aload_n hx hb d_PR_enter_25 rfl (lv_at hl 0 rfl) ?_
    refine g_PR_system hc w mw_209 d_PR_enter_26 ?_
    refine lv_iload_n hx hb d_PR_enter_29 rfl (lv_at hl 1 rfl) ?_
    refine lv_aload_n hx hb d_PR_enter_30 rfl (lv_at hl 0 rfl) ?_
    refine g_PR_core hc w mw_207 d_PR_enter_31 ?_
    refine g_CO_pc hc w mw_113 d_PR_enter_34 ?_
    refine lv_aload_n hx hb d_PR_enter_37 rfl (lv_at hl 0 rfl) ?_
    refine g_PR_core hc w mw_207 d_PR_enter_38 ?_
    refine g_CO_inDelaySlot hc w mw_121 d_PR_enter_41 ?_
    refine lv_aload_n hx hb d_PR_enter_44 rfl (lv_at hl 0 rfl) ?_
    refine g_PR_space hc w mw_210 d_PR_enter_45 ?_
    refine rVI (rest := [.int (zb (x_inds σ21)), .int (x_pc σ21), .int a1, .ref (ad 2), .ref (ad 5)]) hc w (c_AS_lastAsked l E ad σ21) kv_AS_lastAsked mw_465 4 rfl rfl ⟨Nat.le_of_ble_eq_true rfl, Nat.le_of_ble_eq_true rfl⟩ hl.1 rfl (Nat.le_of_ble_eq_true rfl) ⟨Nat.zero_le _, Nat.zero_le _⟩ d_PR_enter_48 (fun H locs w => ?_)
    refine cVI (rest := [.ref (ad 5)]) hc w (c_SR_enterFault l E ad σ21 a1 (x_pc σ21) (x_inds σ21) (f_AS_lastAsked σ21)) kv_SR_enterFault mw_469 2 rfl rfl ⟨Nat.le_of_ble_eq_true rfl, Nat.le_of_ble_eq_true rfl⟩ hl.1 rfl (Nat.le_of_ble_eq_true rfl) ⟨Nat.zero_le _, Nat.zero_le _⟩ d_PR_enter_51 (fun z51 H locs hs51 w => ?_)
    have e_c2 : zV (f_PR_enter_c2 z51 a1 ) = Z := by rw [← e21, f_PR_enter_21, hs51]
    refine cVV (rest := []) hc w (c_CO_restartAt l E ad z51.1 z51.2) kv_CO_restartAt mw_488 5 rfl rfl ⟨Nat.le_of_ble_eq_true rfl, Nat.le_of_ble_eq_true rfl⟩ hl.1 rfl (Nat.le_of_ble_eq_true rfl) ⟨Nat.zero_le _, Nat.zero_le _⟩ d_PR_enter_54 (fun z54 H locs hs54 w => ?_)
    have e_c3 : zV (f_PR_enter_c3 z54 a1 ) = Z := by rw [← e_c2, f_PR_enter_c2, hs54]
    exact rt_v hc w d_PR_enter_57 (by rw [← e_c3, f_PR_enter_c3] <;> rfl)
  refine lv_iload_n hx hb d_PR_enter_0 rfl (lv_at hl 1 rfl) ?_
  refine rSI (rest := []) hc w (c_FA_codeOf l E ad σ a1) ks_FA_codeOf mw_462 ⟨Nat.le_of_ble_eq_true rfl, Nat.le_of_ble_eq_true rfl⟩ hl.1 rfl (Nat.le_of_ble_eq_true rfl) ⟨Nat.zero_le _, Nat.zero_le _⟩ d_PR_enter_1 (fun H locs w => ?_)
  refine lv_istore_n (lv' := [(2, .int (f_FA_codeOf σ a1)), (0, .ref (ad 6)), (1, .int a1)]) hx hb d_PR_enter_4 rfl hl (by decide) rfl (fun ls hl => ?_)
  refine lv_iload_n hx hb d_PR_enter_5 rfl (lv_at hl 0 rfl) ?_
  refine lv_bipush (v := 14) hx hb d_PR_enter_6 (by decide) ?_
  refine lv_icmp_ge (tgt := 21) hx hb d_PR_enter_8 (by decide) (fun q8 => ?_) (fun q8 => ?_)
  · exact J21 σ _ _ _ w (lv_sub hl [1, 2] rfl) (by rw [← e0, f_PR_enter, if_pos q8])
  · refine lv_aload_n hx hb d_PR_enter_11 rfl (lv_at hl 1 rfl) ?_
    refine g_PR_faultsByCode hc w mw_215 d_PR_enter_12 ?_
    refine lv_iload_n hx hb d_PR_enter_15 rfl (lv_at hl 0 rfl) ?_
    refine lv_dup2_11 hx hb d_PR_enter_16 rfl rfl ?_
    refine a_PR_faultsByCode hc w (bd_code q8 (by decide)) d_PR_enter_17 ?_
    refine lv_iconst (v := 1) hx hb d_PR_enter_18 (by decide) ?_
    refine lv_iadd hx hb d_PR_enter_19 ?_
    refine s_PR_faultsByCode hc w (bd_code q8 (by decide)) d_PR_enter_20 (fun σ20 H locs hs20 w => ?_)
    have e_c1 : zV (f_PR_enter_c1 σ20 a1 ) = Z := by rw [← e0, f_PR_enter, if_neg q8, hs20]
    exact J21 σ20 _ _ _ w (lv_sub hl [1, 2] rfl) (by rw [← e_c1, f_PR_enter_c1])
-- PR_fetch
def f_PR_fetch_c2 (z41 : XS)   : XS × Int32 := (z41, (-1 : Int32))
def f_PR_fetch_c1 (z13 : XS × Int64)   : XS × Int32 := if 0 ≤ (lg_cmp z13.2 (0 : Int64)) then (f_PR_fetch_c2 (f_CO_begin z13.1 (f_ME_wordAt z13.1 (Int64.toInt32 z13.2)))  ) else ((z13.1, f_AS_faultIn z13.1 z13.2))
def f_PR_fetch (σ : XS) : XS × Int32 := f_PR_fetch_c1 (f_AS_locateAligned σ (x_pc σ) (2 : Int32) (3 : Int32))  
theorem d_PR_fetch_0 : decode b_PR_fetch 0 = .ok (.aload_n 0, 1) := by decide +kernel
theorem d_PR_fetch_1 : decode b_PR_fetch 1 = .ok (.getfield 27, 3) := by decide +kernel
theorem d_PR_fetch_4 : decode b_PR_fetch 4 = .ok (.aload_n 0, 1) := by decide +kernel
theorem d_PR_fetch_5 : decode b_PR_fetch 5 = .ok (.getfield 15, 3) := by decide +kernel
theorem d_PR_fetch_8 : decode b_PR_fetch 8 = .ok (.getfield 104, 3) := by decide +kernel
theorem d_PR_fetch_11 : decode b_PR_fetch 11 = .ok (.iconst 2, 1) := by decide +kernel
theorem d_PR_fetch_12 : decode b_PR_fetch 12 = .ok (.iconst 3, 1) := by decide +kernel
theorem d_PR_fetch_13 : decode b_PR_fetch 13 = .ok (.invokevirtual 123, 3) := by decide +kernel
theorem d_PR_fetch_16 : decode b_PR_fetch 16 = .ok (.lstore_n 1, 1) := by decide +kernel
theorem d_PR_fetch_17 : decode b_PR_fetch 17 = .ok (.lload_n 1, 1) := by decide +kernel
theorem d_PR_fetch_18 : decode b_PR_fetch 18 = .ok (.lconst 0, 1) := by decide +kernel
theorem d_PR_fetch_19 : decode b_PR_fetch 19 = .ok (.lcmp, 1) := by decide +kernel
theorem d_PR_fetch_20 : decode b_PR_fetch 20 = .ok (.ifCond .ge 8, 3) := by decide +kernel
theorem d_PR_fetch_23 : decode b_PR_fetch 23 = .ok (.lload_n 1, 1) := by decide +kernel
theorem d_PR_fetch_24 : decode b_PR_fetch 24 = .ok (.invokestatic 127, 3) := by decide +kernel
theorem d_PR_fetch_27 : decode b_PR_fetch 27 = .ok (.ireturn, 1) := by decide +kernel
theorem d_PR_fetch_28 : decode b_PR_fetch 28 = .ok (.aload_n 0, 1) := by decide +kernel
theorem d_PR_fetch_29 : decode b_PR_fetch 29 = .ok (.getfield 15, 3) := by decide +kernel
theorem d_PR_fetch_32 : decode b_PR_fetch 32 = .ok (.aload_n 0, 1) := by decide +kernel
theorem d_PR_fetch_33 : decode b_PR_fetch 33 = .ok (.getfield 19, 3) := by decide +kernel
theorem d_PR_fetch_36 : decode b_PR_fetch 36 = .ok (.lload_n 1, 1) := by decide +kernel
theorem d_PR_fetch_37 : decode b_PR_fetch 37 = .ok (.l2i, 1) := by decide +kernel
theorem d_PR_fetch_38 : decode b_PR_fetch 38 = .ok (.invokevirtual 131, 3) := by decide +kernel
theorem d_PR_fetch_41 : decode b_PR_fetch 41 = .ok (.invokevirtual 136, 3) := by decide +kernel
theorem d_PR_fetch_44 : decode b_PR_fetch 44 = .ok (.iconst (-1), 1) := by decide +kernel
theorem d_PR_fetch_45 : decode b_PR_fetch 45 = .ok (.ireturn, 1) := by decide +kernel
set_option maxHeartbeats 4000000 in
set_option maxRecDepth 100000 in
theorem c_PR_fetch (l : Launch) (E : Ev) (ad : Nat → Nat) (σ : XS) : rC xCl l E (xW E ad) y_PR_fetch b_PR_fetch 3 (Option.some Jvm.ClassFile.FieldType.int) (rmo 4 98) [.ref (ad 6)] σ (zI (f_PR_fetch σ)) := by
  refine rC.of (by decide) (Nat.le_of_ble_eq_true rfl) ?_
  intro p e s m below meth c A ls hc w hl
  generalize e0 : zI (f_PR_fetch σ) = Z
  have hc : Cx xCl E A p s m ([.ref (ad 6)] : List Value).toArray meth c b_PR_fetch 3 (Option.some Jvm.ClassFile.FieldType.int) "PageMachine$Processor" := hc
  have hx := hc.1
  have hb := hc.2.1
  have ho := hc.2.2.2.2.2.1
  have hT := hc.2.2.2.2.2.2.1
  have hl : lv_has ls 3 [(0, .ref (ad 6))] := hl
  refine lv_aload_n hx hb d_PR_fetch_0 rfl (lv_at hl 0 rfl) ?_
  refine g_PR_space hc w mw_210 d_PR_fetch_1 ?_
  refine lv_aload_n hx hb d_PR_fetch_4 rfl (lv_at hl 0 rfl) ?_
  refine g_PR_core hc w mw_207 d_PR_fetch_5 ?_
  refine g_CO_pc hc w mw_113 d_PR_fetch_8 ?_
  refine lv_iconst (v := 2) hx hb d_PR_fetch_11 (by decide) ?_
  refine lv_iconst (v := 3) hx hb d_PR_fetch_12 (by decide) ?_
  refine cVL (rest := []) hc w (c_AS_locateAligned l E ad σ (x_pc σ) (2 : Int32) (3 : Int32)) kv_AS_locateAligned mw_493 4 rfl rfl ⟨Nat.le_of_ble_eq_true rfl, Nat.le_of_ble_eq_true rfl⟩ hl.1 rfl (Nat.le_of_ble_eq_true rfl) ⟨Nat.zero_le _, Nat.zero_le _⟩ d_PR_fetch_13 (fun z13 H locs hs13 w => ?_)
  have e_c1 : zI (f_PR_fetch_c1 z13  ) = Z := by rw [← e0, f_PR_fetch, hs13]
  refine lv_lstore_n (lv' := [(1, .long z13.2), (0, .ref (ad 6))]) hx hb d_PR_fetch_16 rfl hl (by decide) rfl (fun ls hl => ?_)
  refine lv_lload_n hx hb d_PR_fetch_17 rfl (lv_at hl 0 rfl) ?_
  refine lv_lconst (v := 0) hx hb d_PR_fetch_18 (by decide) ?_
  refine W.lcmp hx hb d_PR_fetch_19 ?_
  refine lv_if_ge (tgt := 28) hx hb d_PR_fetch_20 (by decide) (fun q20 => ?_) (fun q20 => ?_)
  · refine lv_aload_n hx hb d_PR_fetch_28 rfl (lv_at hl 1 rfl) ?_
    refine g_PR_core hc w mw_207 d_PR_fetch_29 ?_
    refine lv_aload_n hx hb d_PR_fetch_32 rfl (lv_at hl 1 rfl) ?_
    refine g_PR_memory hc w mw_208 d_PR_fetch_33 ?_
    refine lv_lload_n hx hb d_PR_fetch_36 rfl (lv_at hl 0 rfl) ?_
    refine lv_l2i hx hb d_PR_fetch_37 rfl ?_
    refine rVI (rest := [.ref (ad 5)]) hc w (c_ME_wordAt l E ad z13.1 (Int64.toInt32 z13.2)) kv_ME_wordAt mw_527 1 rfl rfl ⟨Nat.le_of_ble_eq_true rfl, Nat.le_of_ble_eq_true rfl⟩ hl.1 rfl (Nat.le_of_ble_eq_true rfl) ⟨Nat.zero_le _, Nat.zero_le _⟩ d_PR_fetch_38 (fun H locs w => ?_)
    refine cVV (rest := []) hc w (c_CO_begin l E ad z13.1 (f_ME_wordAt z13.1 (Int64.toInt32 z13.2))) kv_CO_begin mw_528 5 rfl rfl ⟨Nat.le_of_ble_eq_true rfl, Nat.le_of_ble_eq_true rfl⟩ hl.1 rfl (Nat.le_of_ble_eq_true rfl) ⟨Nat.zero_le _, Nat.zero_le _⟩ d_PR_fetch_41 (fun z41 H locs hs41 w => ?_)
    have e_c2 : zI (f_PR_fetch_c2 z41  ) = Z := by rw [← e_c1, f_PR_fetch_c1, if_pos q20, hs41]
    refine lv_iconst (v := -1) hx hb d_PR_fetch_44 (by decide) ?_
    exact rt_i hc w d_PR_fetch_45 (by rw [← e_c2, f_PR_fetch_c2] <;> rfl)
  · refine lv_lload_n hx hb d_PR_fetch_23 rfl (lv_at hl 0 rfl) ?_
    refine rSI (rest := []) hc w (c_AS_faultIn l E ad z13.1 z13.2) ks_AS_faultIn mw_523 ⟨Nat.le_of_ble_eq_true rfl, Nat.le_of_ble_eq_true rfl⟩ hl.1 rfl (Nat.le_of_ble_eq_true rfl) ⟨Nat.zero_le _, Nat.zero_le _⟩ d_PR_fetch_24 (fun H locs w => ?_)
    exact rt_i hc w d_PR_fetch_27 (by rw [← e_c1, f_PR_fetch_c1, if_neg q20] <;> rfl)
-- PR_performOp0
def f_PR_performOp0_c3 (z54 : XS × Int32)   : XS × Int32 := (z54.1, z54.2)
def f_PR_performOp0_c2 (z46 : XS × Int32)   : XS × Int32 := (z46.1, z46.2)
def f_PR_performOp0_c1 (z37 : XS × Int32)   : XS × Int32 := (z37.1, z37.2)
def f_PR_performOp0 (σ : XS) : XS × Int32 := if (f_CO_fn σ) = (8 : Int32) then (f_PR_performOp0_c1 (f_BR_jumpToRegister σ false)  ) else (if (f_CO_fn σ) = (9 : Int32) then (f_PR_performOp0_c2 (f_BR_jumpToRegister σ true)  ) else (f_PR_performOp0_c3 (f_AR_performOp0 σ)  ))
theorem d_PR_performOp0_0 : decode b_PR_performOp0 0 = .ok (.aload_n 0, 1) := by decide +kernel
theorem d_PR_performOp0_1 : decode b_PR_performOp0 1 = .ok (.getfield 15, 3) := by decide +kernel
theorem d_PR_performOp0_4 : decode b_PR_performOp0 4 = .ok (.invokevirtual 169, 3) := by decide +kernel
theorem d_PR_performOp0_7 : decode b_PR_performOp0 7 = .ok (.lookupswitch 43 #[(8, 25), (9, 34)], 25) := by decide +kernel
theorem d_PR_performOp0_32 : decode b_PR_performOp0 32 = .ok (.aload_n 0, 1) := by decide +kernel
theorem d_PR_performOp0_33 : decode b_PR_performOp0 33 = .ok (.getfield 43, 3) := by decide +kernel
theorem d_PR_performOp0_36 : decode b_PR_performOp0 36 = .ok (.iconst 0, 1) := by decide +kernel
theorem d_PR_performOp0_37 : decode b_PR_performOp0 37 = .ok (.invokevirtual 172, 3) := by decide +kernel
theorem d_PR_performOp0_40 : decode b_PR_performOp0 40 = .ok (.ireturn, 1) := by decide +kernel
theorem d_PR_performOp0_41 : decode b_PR_performOp0 41 = .ok (.aload_n 0, 1) := by decide +kernel
theorem d_PR_performOp0_42 : decode b_PR_performOp0 42 = .ok (.getfield 43, 3) := by decide +kernel
theorem d_PR_performOp0_45 : decode b_PR_performOp0 45 = .ok (.iconst 1, 1) := by decide +kernel
theorem d_PR_performOp0_46 : decode b_PR_performOp0 46 = .ok (.invokevirtual 172, 3) := by decide +kernel
theorem d_PR_performOp0_49 : decode b_PR_performOp0 49 = .ok (.ireturn, 1) := by decide +kernel
theorem d_PR_performOp0_50 : decode b_PR_performOp0 50 = .ok (.aload_n 0, 1) := by decide +kernel
theorem d_PR_performOp0_51 : decode b_PR_performOp0 51 = .ok (.getfield 36, 3) := by decide +kernel
theorem d_PR_performOp0_54 : decode b_PR_performOp0 54 = .ok (.invokevirtual 175, 3) := by decide +kernel
theorem d_PR_performOp0_57 : decode b_PR_performOp0 57 = .ok (.ireturn, 1) := by decide +kernel
set_option maxHeartbeats 4000000 in
set_option maxRecDepth 100000 in
theorem c_PR_performOp0 (l : Launch) (E : Ev) (ad : Nat → Nat) (σ : XS) : rC xCl l E (xW E ad) y_PR_performOp0 b_PR_performOp0 1 (Option.some Jvm.ClassFile.FieldType.int) (rmo 4 90) [.ref (ad 6)] σ (zI (f_PR_performOp0 σ)) := by
  refine rC.of (by decide) (Nat.le_of_ble_eq_true rfl) ?_
  intro p e s m below meth c A ls hc w hl
  generalize e0 : zI (f_PR_performOp0 σ) = Z
  have hc : Cx xCl E A p s m ([.ref (ad 6)] : List Value).toArray meth c b_PR_performOp0 1 (Option.some Jvm.ClassFile.FieldType.int) "PageMachine$Processor" := hc
  have hx := hc.1
  have hb := hc.2.1
  have ho := hc.2.2.2.2.2.1
  have hT := hc.2.2.2.2.2.2.1
  have hl : lv_has ls 1 [(0, .ref (ad 6))] := hl
  refine lv_aload_n hx hb d_PR_performOp0_0 rfl (lv_at hl 0 rfl) ?_
  refine g_PR_core hc w mw_207 d_PR_performOp0_1 ?_
  refine rVI (rest := []) hc w (c_CO_fn l E ad σ) kv_CO_fn mw_544 5 rfl rfl ⟨Nat.le_of_ble_eq_true rfl, Nat.le_of_ble_eq_true rfl⟩ hl.1 rfl (Nat.le_of_ble_eq_true rfl) ⟨Nat.zero_le _, Nat.zero_le _⟩ d_PR_performOp0_4 (fun H locs w => ?_)
  by_cases q7_0 : (f_CO_fn σ) = (8 : Int32)
  · refine lv_lookup (tgt := 32) (off := 25) hx hb d_PR_performOp0_7 (by decide) (by rw [q7_0]; decide) (by decide) ?_
    refine lv_aload_n hx hb d_PR_performOp0_32 rfl (lv_at hl 0 rfl) ?_
    refine g_PR_branches hc w mw_212 d_PR_performOp0_33 ?_
    refine lv_iconst (v := 0) hx hb d_PR_performOp0_36 (by decide) ?_
    refine cVI (rest := []) hc w (c_BR_jumpToRegister l E ad σ false) kv_BR_jumpToRegister mw_548 8 rfl rfl ⟨Nat.le_of_ble_eq_true rfl, Nat.le_of_ble_eq_true rfl⟩ hl.1 rfl (Nat.le_of_ble_eq_true rfl) ⟨Nat.zero_le _, Nat.zero_le _⟩ d_PR_performOp0_37 (fun z37 H locs hs37 w => ?_)
    have e_c1 : zI (f_PR_performOp0_c1 z37  ) = Z := by rw [← e0, f_PR_performOp0, if_pos q7_0, hs37]
    exact rt_i hc w d_PR_performOp0_40 (by rw [← e_c1, f_PR_performOp0_c1] <;> rfl)
  · by_cases q7_1 : (f_CO_fn σ) = (9 : Int32)
    · refine lv_lookup (tgt := 41) (off := 34) hx hb d_PR_performOp0_7 (by decide) (by rw [q7_1]; decide) (by decide) ?_
      refine lv_aload_n hx hb d_PR_performOp0_41 rfl (lv_at hl 0 rfl) ?_
      refine g_PR_branches hc w mw_212 d_PR_performOp0_42 ?_
      refine lv_iconst (v := 1) hx hb d_PR_performOp0_45 (by decide) ?_
      refine cVI (rest := []) hc w (c_BR_jumpToRegister l E ad σ true) kv_BR_jumpToRegister mw_548 8 rfl rfl ⟨Nat.le_of_ble_eq_true rfl, Nat.le_of_ble_eq_true rfl⟩ hl.1 rfl (Nat.le_of_ble_eq_true rfl) ⟨Nat.zero_le _, Nat.zero_le _⟩ d_PR_performOp0_46 (fun z46 H locs hs46 w => ?_)
      have e_c2 : zI (f_PR_performOp0_c2 z46  ) = Z := by rw [← e0, f_PR_performOp0, if_neg q7_0, if_pos q7_1, hs46]
      exact rt_i hc w d_PR_performOp0_49 (by rw [← e_c2, f_PR_performOp0_c2] <;> rfl)
    · refine lv_lookup (tgt := 50) (off := 43) hx hb d_PR_performOp0_7 (by decide) (by have k0 := ne_k q7_0 (n := 8) (by decide); have k1 := ne_k q7_1 (n := 9) (by decide); simp [Op.lookupswitch.offset, k0, Ne.symm k0, k1, Ne.symm k1]) (by decide) ?_
      refine lv_aload_n hx hb d_PR_performOp0_50 rfl (lv_at hl 0 rfl) ?_
      refine g_PR_arithmetic hc w mw_211 d_PR_performOp0_51 ?_
      refine cVI (rest := []) hc w (c_AR_performOp0 l E ad σ) kv_AR_performOp0 mw_565 7 rfl rfl ⟨Nat.le_of_ble_eq_true rfl, Nat.le_of_ble_eq_true rfl⟩ hl.1 rfl (Nat.le_of_ble_eq_true rfl) ⟨Nat.zero_le _, Nat.zero_le _⟩ d_PR_performOp0_54 (fun z54 H locs hs54 w => ?_)
      have e_c3 : zI (f_PR_performOp0_c3 z54  ) = Z := by rw [← e0, f_PR_performOp0, if_neg q7_0, if_neg q7_1, hs54]
      exact rt_i hc w d_PR_performOp0_57 (by rw [← e_c3, f_PR_performOp0_c3] <;> rfl)
-- PR_performOp1
def f_PR_performOp1_c1 (z48 : XS × Int32)   : XS × Int32 := (z48.1, z48.2)
def f_PR_performOp1_44 (σ : XS) : XS × Int32 := f_PR_performOp1_c1 (f_BR_bySign σ)  
def f_PR_performOp1_52 (σ : XS) : XS × Int32 := (σ, f_AR_trapImmediate σ)
def f_PR_performOp1 (σ : XS) : XS × Int32 := if ((Int32.toUInt32 (f_CO_rt σ) >>> (Int32.toUInt32 (2 : Int32) &&& Int32.toUInt32 31)).toInt32) = (0 : Int32) then (f_PR_performOp1_44 σ) else (if ((Int32.toUInt32 (f_CO_rt σ) >>> (Int32.toUInt32 (2 : Int32) &&& Int32.toUInt32 31)).toInt32) = (1 : Int32) then ((σ, (10 : Int32))) else (if ((Int32.toUInt32 (f_CO_rt σ) >>> (Int32.toUInt32 (2 : Int32) &&& Int32.toUInt32 31)).toInt32) = (2 : Int32) then (f_PR_performOp1_52 σ) else (if ((Int32.toUInt32 (f_CO_rt σ) >>> (Int32.toUInt32 (2 : Int32) &&& Int32.toUInt32 31)).toInt32) = (3 : Int32) then (f_PR_performOp1_52 σ) else (if ((Int32.toUInt32 (f_CO_rt σ) >>> (Int32.toUInt32 (2 : Int32) &&& Int32.toUInt32 31)).toInt32) = (4 : Int32) then (f_PR_performOp1_44 σ) else ((σ, (10 : Int32)))))))
theorem d_PR_performOp1_0 : decode b_PR_performOp1 0 = .ok (.aload_n 0, 1) := by decide +kernel
theorem d_PR_performOp1_1 : decode b_PR_performOp1 1 = .ok (.getfield 15, 3) := by decide +kernel
theorem d_PR_performOp1_4 : decode b_PR_performOp1 4 = .ok (.invokevirtual 176, 3) := by decide +kernel
theorem d_PR_performOp1_7 : decode b_PR_performOp1 7 = .ok (.iconst 2, 1) := by decide +kernel
theorem d_PR_performOp1_8 : decode b_PR_performOp1 8 = .ok (.iushr, 1) := by decide +kernel
theorem d_PR_performOp1_9 : decode b_PR_performOp1 9 = .ok (.tableswitch 51 0 4 #[35, 51, 43, 43, 35], 35) := by decide +kernel
theorem d_PR_performOp1_44 : decode b_PR_performOp1 44 = .ok (.aload_n 0, 1) := by decide +kernel
theorem d_PR_performOp1_45 : decode b_PR_performOp1 45 = .ok (.getfield 43, 3) := by decide +kernel
theorem d_PR_performOp1_48 : decode b_PR_performOp1 48 = .ok (.invokevirtual 179, 3) := by decide +kernel
theorem d_PR_performOp1_51 : decode b_PR_performOp1 51 = .ok (.ireturn, 1) := by decide +kernel
theorem d_PR_performOp1_52 : decode b_PR_performOp1 52 = .ok (.aload_n 0, 1) := by decide +kernel
theorem d_PR_performOp1_53 : decode b_PR_performOp1 53 = .ok (.getfield 36, 3) := by decide +kernel
theorem d_PR_performOp1_56 : decode b_PR_performOp1 56 = .ok (.invokevirtual 182, 3) := by decide +kernel
theorem d_PR_performOp1_59 : decode b_PR_performOp1 59 = .ok (.ireturn, 1) := by decide +kernel
theorem d_PR_performOp1_60 : decode b_PR_performOp1 60 = .ok (.bipush 10, 2) := by decide +kernel
theorem d_PR_performOp1_62 : decode b_PR_performOp1 62 = .ok (.ireturn, 1) := by decide +kernel
set_option maxHeartbeats 4000000 in
set_option maxRecDepth 100000 in
theorem c_PR_performOp1 (l : Launch) (E : Ev) (ad : Nat → Nat) (σ : XS) : rC xCl l E (xW E ad) y_PR_performOp1 b_PR_performOp1 1 (Option.some Jvm.ClassFile.FieldType.int) (rmo 3 65) [.ref (ad 6)] σ (zI (f_PR_performOp1 σ)) := by
  refine rC.of (by decide) (Nat.le_of_ble_eq_true rfl) ?_
  intro p e s m below meth c A ls hc w hl
  generalize e0 : zI (f_PR_performOp1 σ) = Z
  have hc : Cx xCl E A p s m ([.ref (ad 6)] : List Value).toArray meth c b_PR_performOp1 1 (Option.some Jvm.ClassFile.FieldType.int) "PageMachine$Processor" := hc
  have hx := hc.1
  have hb := hc.2.1
  have ho := hc.2.2.2.2.2.1
  have hT := hc.2.2.2.2.2.2.1
  have hl : lv_has ls 1 [(0, .ref (ad 6))] := hl
  have J44 : ∀ (H : Heap) (locs : List Loc) (ls : Array Slot), Wd xCl E A s.heap H locs (xW E ad σ) → lv_has ls 1 [(0, .ref (ad 6))] → zI (f_PR_performOp1_44 σ) = Z → W p l e (rmo 3 65) s m ([.ref (ad 6)] : List Value).toArray below meth c H locs 0 0 (MQ below (rQ xCl (xW E ad) E A Z) ([.ref (ad 6)] : List Value).toArray s 0 0 A) (F0 m 44 ls []) := by
    intro  H locs ls w hl e44
    refine lv_aload_n hx hb d_PR_performOp1_44 rfl (lv_at hl 0 rfl) ?_
    refine g_PR_branches hc w mw_212 d_PR_performOp1_45 ?_
    refine cVI (rest := []) hc w (c_BR_bySign l E ad σ) kv_BR_bySign mw_648 8 rfl rfl ⟨Nat.le_of_ble_eq_true rfl, Nat.le_of_ble_eq_true rfl⟩ hl.1 rfl (Nat.le_of_ble_eq_true rfl) ⟨Nat.zero_le _, Nat.zero_le _⟩ d_PR_performOp1_48 (fun z48 H locs hs48 w => ?_)
    have e_c1 : zI (f_PR_performOp1_c1 z48  ) = Z := by rw [← e44, f_PR_performOp1_44, hs48]
    exact rt_i hc w d_PR_performOp1_51 (by rw [← e_c1, f_PR_performOp1_c1] <;> rfl)
  have J52 : ∀ (H : Heap) (locs : List Loc) (ls : Array Slot), Wd xCl E A s.heap H locs (xW E ad σ) → lv_has ls 1 [(0, .ref (ad 6))] → zI (f_PR_performOp1_52 σ) = Z → W p l e (rmo 3 65) s m ([.ref (ad 6)] : List Value).toArray below meth c H locs 0 0 (MQ below (rQ xCl (xW E ad) E A Z) ([.ref (ad 6)] : List Value).toArray s 0 0 A) (F0 m 52 ls []) := by
    intro  H locs ls w hl e52
    refine lv_aload_n hx hb d_PR_performOp1_52 rfl (lv_at hl 0 rfl) ?_
    refine g_PR_arithmetic hc w mw_211 d_PR_performOp1_53 ?_
    refine rVI (rest := []) hc w (c_AR_trapImmediate l E ad σ) kv_AR_trapImmediate mw_665 7 rfl rfl ⟨Nat.le_of_ble_eq_true rfl, Nat.le_of_ble_eq_true rfl⟩ hl.1 rfl (Nat.le_of_ble_eq_true rfl) ⟨Nat.zero_le _, Nat.zero_le _⟩ d_PR_performOp1_56 (fun H locs w => ?_)
    exact rt_i hc w d_PR_performOp1_59 (by rw [← e52, f_PR_performOp1_52] <;> rfl)
  refine lv_aload_n hx hb d_PR_performOp1_0 rfl (lv_at hl 0 rfl) ?_
  refine g_PR_core hc w mw_207 d_PR_performOp1_1 ?_
  refine rVI (rest := []) hc w (c_CO_rt l E ad σ) kv_CO_rt mw_644 5 rfl rfl ⟨Nat.le_of_ble_eq_true rfl, Nat.le_of_ble_eq_true rfl⟩ hl.1 rfl (Nat.le_of_ble_eq_true rfl) ⟨Nat.zero_le _, Nat.zero_le _⟩ d_PR_performOp1_4 (fun H locs w => ?_)
  refine lv_iconst (v := 2) hx hb d_PR_performOp1_7 (by decide) ?_
  refine lv_iushr hx hb d_PR_performOp1_8 rfl ?_
  by_cases q9_0 : ((Int32.toUInt32 (f_CO_rt σ) >>> (Int32.toUInt32 (2 : Int32) &&& Int32.toUInt32 31)).toInt32) = (0 : Int32)
  · refine lv_tableIn (tgt := 44) (off := 35) hx hb d_PR_performOp1_9 (by rw [q9_0]; decide) (by rw [q9_0]; decide) (by rw [q9_0]; rfl) (by decide) ?_
    exact J44  _ _ _ w (lv_sub hl [0] rfl) (by rw [← e0, f_PR_performOp1, if_pos q9_0])
  · by_cases q9_1 : ((Int32.toUInt32 (f_CO_rt σ) >>> (Int32.toUInt32 (2 : Int32) &&& Int32.toUInt32 31)).toInt32) = (1 : Int32)
    · refine lv_tableIn (tgt := 60) (off := 51) hx hb d_PR_performOp1_9 (by rw [q9_1]; decide) (by rw [q9_1]; decide) (by rw [q9_1]; rfl) (by decide) ?_
      refine lv_bipush (v := 10) hx hb d_PR_performOp1_60 (by decide) ?_
      exact rt_i hc w d_PR_performOp1_62 (by rw [← e0, f_PR_performOp1, if_neg q9_0, if_pos q9_1] <;> rfl)
    · by_cases q9_2 : ((Int32.toUInt32 (f_CO_rt σ) >>> (Int32.toUInt32 (2 : Int32) &&& Int32.toUInt32 31)).toInt32) = (2 : Int32)
      · refine lv_tableIn (tgt := 52) (off := 43) hx hb d_PR_performOp1_9 (by rw [q9_2]; decide) (by rw [q9_2]; decide) (by rw [q9_2]; rfl) (by decide) ?_
        exact J52  _ _ _ w (lv_sub hl [0] rfl) (by rw [← e0, f_PR_performOp1, if_neg q9_0, if_neg q9_1, if_pos q9_2])
      · by_cases q9_3 : ((Int32.toUInt32 (f_CO_rt σ) >>> (Int32.toUInt32 (2 : Int32) &&& Int32.toUInt32 31)).toInt32) = (3 : Int32)
        · refine lv_tableIn (tgt := 52) (off := 43) hx hb d_PR_performOp1_9 (by rw [q9_3]; decide) (by rw [q9_3]; decide) (by rw [q9_3]; rfl) (by decide) ?_
          exact J52  _ _ _ w (lv_sub hl [0] rfl) (by rw [← e0, f_PR_performOp1, if_neg q9_0, if_neg q9_1, if_neg q9_2, if_pos q9_3])
        · by_cases q9_4 : ((Int32.toUInt32 (f_CO_rt σ) >>> (Int32.toUInt32 (2 : Int32) &&& Int32.toUInt32 31)).toInt32) = (4 : Int32)
          · refine lv_tableIn (tgt := 44) (off := 35) hx hb d_PR_performOp1_9 (by rw [q9_4]; decide) (by rw [q9_4]; decide) (by rw [q9_4]; rfl) (by decide) ?_
            exact J44  _ _ _ w (lv_sub hl [0] rfl) (by rw [← e0, f_PR_performOp1, if_neg q9_0, if_neg q9_1, if_neg q9_2, if_neg q9_3, if_pos q9_4])
          · refine lv_tableOut (tgt := 60) hx hb d_PR_performOp1_9 (by have k0 := ne_k q9_0 (n := 0) (by decide); have k1 := ne_k q9_1 (n := 1) (by decide); have k2 := ne_k q9_2 (n := 2) (by decide); have k3 := ne_k q9_3 (n := 3) (by decide); have k4 := ne_k q9_4 (n := 4) (by decide); omega) (by decide) ?_
            refine lv_bipush (v := 10) hx hb d_PR_performOp1_60 (by decide) ?_
            exact rt_i hc w d_PR_performOp1_62 (by rw [← e0, f_PR_performOp1, if_neg q9_0, if_neg q9_1, if_neg q9_2, if_neg q9_3, if_neg q9_4] <;> rfl)
-- PR_perform
def f_PR_perform_c10 (z300 : XS × Int32) (a1 : Int32)  : XS × Int32 := (z300.1, z300.2)
def f_PR_perform_296 (σ : XS) (a1 : Int32) : XS × Int32 := f_PR_perform_c10 (f_BR_byComparison σ) a1 
def f_PR_perform_c9 (z308 : XS × Int32) (a1 : Int32)  : XS × Int32 := (z308.1, z308.2)
def f_PR_perform_304 (σ : XS) (a1 : Int32) : XS × Int32 := f_PR_perform_c9 (f_AR_immediate σ) a1 
def f_PR_perform_c8 (z316 : XS × Int32) (a1 : Int32)  : XS × Int32 := (z316.1, z316.2)
def f_PR_perform_312 (σ : XS) (a1 : Int32) : XS × Int32 := f_PR_perform_c8 (f_CP_perform σ) a1 
def f_PR_perform_320 (σ : XS) (a1 : Int32) : XS × Int32 := (σ, f_FA_noCoprocessor σ (1 : Int32))
def f_PR_perform_325 (σ : XS) (a1 : Int32) : XS × Int32 := (σ, f_FA_noCoprocessor σ (2 : Int32))
def f_PR_perform_c7 (z347 : XS × Int32) (a1 : Int32)  : XS × Int32 := (z347.1, z347.2)
def f_PR_perform_343 (σ : XS) (a1 : Int32) : XS × Int32 := f_PR_perform_c7 (f_LS_load σ) a1 
def f_PR_perform_c6 (z355 : XS × Int32) (a1 : Int32)  : XS × Int32 := (z355.1, z355.2)
def f_PR_perform_351 (σ : XS) (a1 : Int32) : XS × Int32 := f_PR_perform_c6 (f_LS_store σ) a1 
def f_PR_perform_c5 (z339 : XS × Int32) (a1 : Int32)  : XS × Int32 := (z339.1, z339.2)
def f_PR_perform_c4 (z292 : XS × Int32) (a1 : Int32)  : XS × Int32 := (z292.1, z292.2)
def f_PR_perform_c3 (z283 : XS × Int32) (a1 : Int32)  : XS × Int32 := (z283.1, z283.2)
def f_PR_perform_c2 (z274 : XS × Int32) (a1 : Int32)  : XS × Int32 := (z274.1, z274.2)
def f_PR_perform_c1 (z269 : XS × Int32) (a1 : Int32)  : XS × Int32 := (z269.1, z269.2)
def f_PR_perform (σ : XS) (a1 : Int32) : XS × Int32 := if a1 = (0 : Int32) then (f_PR_perform_c1 (f_PR_performOp0 σ) a1 ) else (if a1 = (1 : Int32) then (f_PR_perform_c2 (f_PR_performOp1 σ) a1 ) else (if a1 = (2 : Int32) then (f_PR_perform_c3 (f_BR_jump σ false) a1 ) else (if a1 = (3 : Int32) then (f_PR_perform_c4 (f_BR_jump σ true) a1 ) else (if a1 = (4 : Int32) then (f_PR_perform_296 σ a1) else (if a1 = (5 : Int32) then (f_PR_perform_296 σ a1) else (if a1 = (6 : Int32) then (f_PR_perform_296 σ a1) else (if a1 = (7 : Int32) then (f_PR_perform_296 σ a1) else (if a1 = (8 : Int32) then (f_PR_perform_304 σ a1) else (if a1 = (9 : Int32) then (f_PR_perform_304 σ a1) else (if a1 = (10 : Int32) then (f_PR_perform_304 σ a1) else (if a1 = (11 : Int32) then (f_PR_perform_304 σ a1) else (if a1 = (12 : Int32) then (f_PR_perform_304 σ a1) else (if a1 = (13 : Int32) then (f_PR_perform_304 σ a1) else (if a1 = (14 : Int32) then (f_PR_perform_304 σ a1) else (if a1 = (15 : Int32) then (f_PR_perform_304 σ a1) else (if a1 = (16 : Int32) then (f_PR_perform_312 σ a1) else (if a1 = (17 : Int32) then (f_PR_perform_320 σ a1) else (if a1 = (18 : Int32) then (f_PR_perform_325 σ a1) else (if a1 = (19 : Int32) then ((σ, f_FA_noCoprocessor σ (3 : Int32))) else (if a1 = (20 : Int32) then (f_PR_perform_296 σ a1) else (if a1 = (21 : Int32) then (f_PR_perform_296 σ a1) else (if a1 = (22 : Int32) then (f_PR_perform_296 σ a1) else (if a1 = (23 : Int32) then (f_PR_perform_296 σ a1) else (if a1 = (24 : Int32) then ((σ, (10 : Int32))) else (if a1 = (25 : Int32) then ((σ, (10 : Int32))) else (if a1 = (26 : Int32) then ((σ, (10 : Int32))) else (if a1 = (27 : Int32) then ((σ, (10 : Int32))) else (if a1 = (28 : Int32) then (f_PR_perform_c5 (f_AR_performOp1C σ) a1 ) else (if a1 = (29 : Int32) then ((σ, (10 : Int32))) else (if a1 = (30 : Int32) then ((σ, (10 : Int32))) else (if a1 = (31 : Int32) then ((σ, (10 : Int32))) else (if a1 = (32 : Int32) then (f_PR_perform_343 σ a1) else (if a1 = (33 : Int32) then (f_PR_perform_343 σ a1) else (if a1 = (34 : Int32) then (f_PR_perform_343 σ a1) else (if a1 = (35 : Int32) then (f_PR_perform_343 σ a1) else (if a1 = (36 : Int32) then (f_PR_perform_343 σ a1) else (if a1 = (37 : Int32) then (f_PR_perform_343 σ a1) else (if a1 = (38 : Int32) then (f_PR_perform_343 σ a1) else (if a1 = (39 : Int32) then ((σ, (10 : Int32))) else (if a1 = (40 : Int32) then (f_PR_perform_351 σ a1) else (if a1 = (41 : Int32) then (f_PR_perform_351 σ a1) else (if a1 = (42 : Int32) then (f_PR_perform_351 σ a1) else (if a1 = (43 : Int32) then (f_PR_perform_351 σ a1) else (if a1 = (44 : Int32) then ((σ, (10 : Int32))) else (if a1 = (45 : Int32) then ((σ, (10 : Int32))) else (if a1 = (46 : Int32) then (f_PR_perform_351 σ a1) else (if a1 = (47 : Int32) then (f_PR_perform_312 σ a1) else (if a1 = (48 : Int32) then (f_PR_perform_343 σ a1) else (if a1 = (49 : Int32) then (f_PR_perform_320 σ a1) else (if a1 = (50 : Int32) then (f_PR_perform_325 σ a1) else (if a1 = (51 : Int32) then ((σ, (-1 : Int32))) else (if a1 = (52 : Int32) then ((σ, (10 : Int32))) else (if a1 = (53 : Int32) then (f_PR_perform_320 σ a1) else (if a1 = (54 : Int32) then (f_PR_perform_325 σ a1) else (if a1 = (55 : Int32) then ((σ, (10 : Int32))) else (if a1 = (56 : Int32) then (f_PR_perform_351 σ a1) else (if a1 = (57 : Int32) then (f_PR_perform_320 σ a1) else (if a1 = (58 : Int32) then (f_PR_perform_325 σ a1) else (if a1 = (59 : Int32) then ((σ, (10 : Int32))) else (if a1 = (60 : Int32) then ((σ, (10 : Int32))) else (if a1 = (61 : Int32) then (f_PR_perform_320 σ a1) else (if a1 = (62 : Int32) then (f_PR_perform_325 σ a1) else ((σ, (10 : Int32)))))))))))))))))))))))))))))))))))))))))))))))))))))))))))))))))
theorem d_PR_perform_0 : decode b_PR_perform 0 = .ok (.iload_n 1, 1) := by decide +kernel
theorem d_PR_perform_1 : decode b_PR_perform 1 = .ok (.tableswitch 360 0 62 #[267, 272, 277, 286, 295, 295, 295, 295, 303, 303, 303, 303, 303, 303, 303, 303, 311, 319, 324, 329, 295, 295, 295, 295, 360, 360, 360, 360, 334, 360, 360, 360, 342, 342, 342, 342, 342, 342, 342, 360, 350, 350, 350, 350, 360, 360, 350, 311, 342, 319, 324, 358, 360, 319, 324, 360, 350, 319, 324, 360, 360, 319, 324], 267) := by decide +kernel
theorem d_PR_perform_268 : decode b_PR_perform 268 = .ok (.aload_n 0, 1) := by decide +kernel
theorem d_PR_perform_269 : decode b_PR_perform 269 = .ok (.invokevirtual 139, 3) := by decide +kernel
theorem d_PR_perform_272 : decode b_PR_perform 272 = .ok (.ireturn, 1) := by decide +kernel
theorem d_PR_perform_273 : decode b_PR_perform 273 = .ok (.aload_n 0, 1) := by decide +kernel
theorem d_PR_perform_274 : decode b_PR_perform 274 = .ok (.invokevirtual 142, 3) := by decide +kernel
theorem d_PR_perform_277 : decode b_PR_perform 277 = .ok (.ireturn, 1) := by decide +kernel
theorem d_PR_perform_278 : decode b_PR_perform 278 = .ok (.aload_n 0, 1) := by decide +kernel
theorem d_PR_perform_279 : decode b_PR_perform 279 = .ok (.getfield 43, 3) := by decide +kernel
theorem d_PR_perform_282 : decode b_PR_perform 282 = .ok (.iconst 0, 1) := by decide +kernel
theorem d_PR_perform_283 : decode b_PR_perform 283 = .ok (.invokevirtual 145, 3) := by decide +kernel
theorem d_PR_perform_286 : decode b_PR_perform 286 = .ok (.ireturn, 1) := by decide +kernel
theorem d_PR_perform_287 : decode b_PR_perform 287 = .ok (.aload_n 0, 1) := by decide +kernel
theorem d_PR_perform_288 : decode b_PR_perform 288 = .ok (.getfield 43, 3) := by decide +kernel
theorem d_PR_perform_291 : decode b_PR_perform 291 = .ok (.iconst 1, 1) := by decide +kernel
theorem d_PR_perform_292 : decode b_PR_perform 292 = .ok (.invokevirtual 145, 3) := by decide +kernel
theorem d_PR_perform_295 : decode b_PR_perform 295 = .ok (.ireturn, 1) := by decide +kernel
theorem d_PR_perform_296 : decode b_PR_perform 296 = .ok (.aload_n 0, 1) := by decide +kernel
theorem d_PR_perform_297 : decode b_PR_perform 297 = .ok (.getfield 43, 3) := by decide +kernel
theorem d_PR_perform_300 : decode b_PR_perform 300 = .ok (.invokevirtual 149, 3) := by decide +kernel
theorem d_PR_perform_303 : decode b_PR_perform 303 = .ok (.ireturn, 1) := by decide +kernel
theorem d_PR_perform_304 : decode b_PR_perform 304 = .ok (.aload_n 0, 1) := by decide +kernel
theorem d_PR_perform_305 : decode b_PR_perform 305 = .ok (.getfield 36, 3) := by decide +kernel
theorem d_PR_perform_308 : decode b_PR_perform 308 = .ok (.invokevirtual 152, 3) := by decide +kernel
theorem d_PR_perform_311 : decode b_PR_perform 311 = .ok (.ireturn, 1) := by decide +kernel
theorem d_PR_perform_312 : decode b_PR_perform 312 = .ok (.aload_n 0, 1) := by decide +kernel
theorem d_PR_perform_313 : decode b_PR_perform 313 = .ok (.getfield 61, 3) := by decide +kernel
theorem d_PR_perform_316 : decode b_PR_perform 316 = .ok (.invokevirtual 155, 3) := by decide +kernel
theorem d_PR_perform_319 : decode b_PR_perform 319 = .ok (.ireturn, 1) := by decide +kernel
theorem d_PR_perform_320 : decode b_PR_perform 320 = .ok (.iconst 1, 1) := by decide +kernel
theorem d_PR_perform_321 : decode b_PR_perform 321 = .ok (.invokestatic 157, 3) := by decide +kernel
theorem d_PR_perform_324 : decode b_PR_perform 324 = .ok (.ireturn, 1) := by decide +kernel
theorem d_PR_perform_325 : decode b_PR_perform 325 = .ok (.iconst 2, 1) := by decide +kernel
theorem d_PR_perform_326 : decode b_PR_perform 326 = .ok (.invokestatic 157, 3) := by decide +kernel
theorem d_PR_perform_329 : decode b_PR_perform 329 = .ok (.ireturn, 1) := by decide +kernel
theorem d_PR_perform_330 : decode b_PR_perform 330 = .ok (.iconst 3, 1) := by decide +kernel
theorem d_PR_perform_331 : decode b_PR_perform 331 = .ok (.invokestatic 157, 3) := by decide +kernel
theorem d_PR_perform_334 : decode b_PR_perform 334 = .ok (.ireturn, 1) := by decide +kernel
theorem d_PR_perform_335 : decode b_PR_perform 335 = .ok (.aload_n 0, 1) := by decide +kernel
theorem d_PR_perform_336 : decode b_PR_perform 336 = .ok (.getfield 36, 3) := by decide +kernel
theorem d_PR_perform_339 : decode b_PR_perform 339 = .ok (.invokevirtual 160, 3) := by decide +kernel
theorem d_PR_perform_342 : decode b_PR_perform 342 = .ok (.ireturn, 1) := by decide +kernel
theorem d_PR_perform_343 : decode b_PR_perform 343 = .ok (.aload_n 0, 1) := by decide +kernel
theorem d_PR_perform_344 : decode b_PR_perform 344 = .ok (.getfield 52, 3) := by decide +kernel
theorem d_PR_perform_347 : decode b_PR_perform 347 = .ok (.invokevirtual 163, 3) := by decide +kernel
theorem d_PR_perform_350 : decode b_PR_perform 350 = .ok (.ireturn, 1) := by decide +kernel
theorem d_PR_perform_351 : decode b_PR_perform 351 = .ok (.aload_n 0, 1) := by decide +kernel
theorem d_PR_perform_352 : decode b_PR_perform 352 = .ok (.getfield 52, 3) := by decide +kernel
theorem d_PR_perform_355 : decode b_PR_perform 355 = .ok (.invokevirtual 166, 3) := by decide +kernel
theorem d_PR_perform_358 : decode b_PR_perform 358 = .ok (.ireturn, 1) := by decide +kernel
theorem d_PR_perform_359 : decode b_PR_perform 359 = .ok (.iconst (-1), 1) := by decide +kernel
theorem d_PR_perform_360 : decode b_PR_perform 360 = .ok (.ireturn, 1) := by decide +kernel
theorem d_PR_perform_361 : decode b_PR_perform 361 = .ok (.bipush 10, 2) := by decide +kernel
theorem d_PR_perform_363 : decode b_PR_perform 363 = .ok (.ireturn, 1) := by decide +kernel
set_option maxHeartbeats 4000000 in
set_option maxRecDepth 100000 in
theorem c_PR_perform (l : Launch) (E : Ev) (ad : Nat → Nat) (σ : XS) (a1 : Int32) : rC xCl l E (xW E ad) y_PR_perform b_PR_perform 2 (Option.some Jvm.ClassFile.FieldType.int) (rmo 5 122) [.ref (ad 6), .int a1] σ (zI (f_PR_perform σ a1)) := by
  refine rC.of (by decide) (Nat.le_of_ble_eq_true rfl) ?_
  intro p e s m below meth c A ls hc w hl
  generalize e0 : zI (f_PR_perform σ a1) = Z
  have hc : Cx xCl E A p s m ([.ref (ad 6), .int a1] : List Value).toArray meth c b_PR_perform 2 (Option.some Jvm.ClassFile.FieldType.int) "PageMachine$Processor" := hc
  have hx := hc.1
  have hb := hc.2.1
  have ho := hc.2.2.2.2.2.1
  have hT := hc.2.2.2.2.2.2.1
  have hl : lv_has ls 2 [(0, .ref (ad 6)), (1, .int a1)] := hl
  have J296 : ∀ (H : Heap) (locs : List Loc) (ls : Array Slot), Wd xCl E A s.heap H locs (xW E ad σ) → lv_has ls 2 [(0, .ref (ad 6))] → zI (f_PR_perform_296 σ a1) = Z → W p l e (rmo 5 122) s m ([.ref (ad 6), .int a1] : List Value).toArray below meth c H locs 0 0 (MQ below (rQ xCl (xW E ad) E A Z) ([.ref (ad 6), .int a1] : List Value).toArray s 0 0 A) (F0 m 296 ls []) := by
    intro  H locs ls w hl e296
    refine lv_aload_n hx hb d_PR_perform_296 rfl (lv_at hl 0 rfl) ?_
    refine g_PR_branches hc w mw_212 d_PR_perform_297 ?_
    refine cVI (rest := []) hc w (c_BR_byComparison l E ad σ) kv_BR_byComparison mw_681 8 rfl rfl ⟨Nat.le_of_ble_eq_true rfl, Nat.le_of_ble_eq_true rfl⟩ hl.1 rfl (Nat.le_of_ble_eq_true rfl) ⟨Nat.zero_le _, Nat.zero_le _⟩ d_PR_perform_300 (fun z300 H locs hs300 w => ?_)
    have e_c10 : zI (f_PR_perform_c10 z300 a1 ) = Z := by rw [← e296, f_PR_perform_296, hs300]
    exact rt_i hc w d_PR_perform_303 (by rw [← e_c10, f_PR_perform_c10] <;> rfl)
  have J304 : ∀ (H : Heap) (locs : List Loc) (ls : Array Slot), Wd xCl E A s.heap H locs (xW E ad σ) → lv_has ls 2 [(0, .ref (ad 6))] → zI (f_PR_perform_304 σ a1) = Z → W p l e (rmo 5 122) s m ([.ref (ad 6), .int a1] : List Value).toArray below meth c H locs 0 0 (MQ below (rQ xCl (xW E ad) E A Z) ([.ref (ad 6), .int a1] : List Value).toArray s 0 0 A) (F0 m 304 ls []) := by
    intro  H locs ls w hl e304
    refine lv_aload_n hx hb d_PR_perform_304 rfl (lv_at hl 0 rfl) ?_
    refine g_PR_arithmetic hc w mw_211 d_PR_perform_305 ?_
    refine cVI (rest := []) hc w (c_AR_immediate l E ad σ) kv_AR_immediate mw_690 7 rfl rfl ⟨Nat.le_of_ble_eq_true rfl, Nat.le_of_ble_eq_true rfl⟩ hl.1 rfl (Nat.le_of_ble_eq_true rfl) ⟨Nat.zero_le _, Nat.zero_le _⟩ d_PR_perform_308 (fun z308 H locs hs308 w => ?_)
    have e_c9 : zI (f_PR_perform_c9 z308 a1 ) = Z := by rw [← e304, f_PR_perform_304, hs308]
    exact rt_i hc w d_PR_perform_311 (by rw [← e_c9, f_PR_perform_c9] <;> rfl)
  have J312 : ∀ (H : Heap) (locs : List Loc) (ls : Array Slot), Wd xCl E A s.heap H locs (xW E ad σ) → lv_has ls 2 [(0, .ref (ad 6))] → zI (f_PR_perform_312 σ a1) = Z → W p l e (rmo 5 122) s m ([.ref (ad 6), .int a1] : List Value).toArray below meth c H locs 0 0 (MQ below (rQ xCl (xW E ad) E A Z) ([.ref (ad 6), .int a1] : List Value).toArray s 0 0 A) (F0 m 312 ls []) := by
    intro  H locs ls w hl e312
    refine lv_aload_n hx hb d_PR_perform_312 rfl (lv_at hl 0 rfl) ?_
    refine g_PR_coprocessor hc w mw_214 d_PR_perform_313 ?_
    refine cVI (rest := []) hc w (c_CP_perform l E ad σ) kv_CP_perform mw_700 10 rfl rfl ⟨Nat.le_of_ble_eq_true rfl, Nat.le_of_ble_eq_true rfl⟩ hl.1 rfl (Nat.le_of_ble_eq_true rfl) ⟨Nat.zero_le _, Nat.zero_le _⟩ d_PR_perform_316 (fun z316 H locs hs316 w => ?_)
    have e_c8 : zI (f_PR_perform_c8 z316 a1 ) = Z := by rw [← e312, f_PR_perform_312, hs316]
    exact rt_i hc w d_PR_perform_319 (by rw [← e_c8, f_PR_perform_c8] <;> rfl)
  have J320 : ∀ (H : Heap) (locs : List Loc) (ls : Array Slot), Wd xCl E A s.heap H locs (xW E ad σ) → lv_has ls 2 [] → zI (f_PR_perform_320 σ a1) = Z → W p l e (rmo 5 122) s m ([.ref (ad 6), .int a1] : List Value).toArray below meth c H locs 0 0 (MQ below (rQ xCl (xW E ad) E A Z) ([.ref (ad 6), .int a1] : List Value).toArray s 0 0 A) (F0 m 320 ls []) := by
    intro  H locs ls w hl e320
    refine lv_iconst (v := 1) hx hb d_PR_perform_320 (by decide) ?_
    refine rSI (rest := []) hc w (c_FA_noCoprocessor l E ad σ (1 : Int32)) ks_FA_noCoprocessor mw_777 ⟨Nat.le_of_ble_eq_true rfl, Nat.le_of_ble_eq_true rfl⟩ hl.1 rfl (Nat.le_of_ble_eq_true rfl) ⟨Nat.zero_le _, Nat.zero_le _⟩ d_PR_perform_321 (fun H locs w => ?_)
    exact rt_i hc w d_PR_perform_324 (by rw [← e320, f_PR_perform_320] <;> rfl)
  have J325 : ∀ (H : Heap) (locs : List Loc) (ls : Array Slot), Wd xCl E A s.heap H locs (xW E ad σ) → lv_has ls 2 [] → zI (f_PR_perform_325 σ a1) = Z → W p l e (rmo 5 122) s m ([.ref (ad 6), .int a1] : List Value).toArray below meth c H locs 0 0 (MQ below (rQ xCl (xW E ad) E A Z) ([.ref (ad 6), .int a1] : List Value).toArray s 0 0 A) (F0 m 325 ls []) := by
    intro  H locs ls w hl e325
    refine lv_iconst (v := 2) hx hb d_PR_perform_325 (by decide) ?_
    refine rSI (rest := []) hc w (c_FA_noCoprocessor l E ad σ (2 : Int32)) ks_FA_noCoprocessor mw_777 ⟨Nat.le_of_ble_eq_true rfl, Nat.le_of_ble_eq_true rfl⟩ hl.1 rfl (Nat.le_of_ble_eq_true rfl) ⟨Nat.zero_le _, Nat.zero_le _⟩ d_PR_perform_326 (fun H locs w => ?_)
    exact rt_i hc w d_PR_perform_329 (by rw [← e325, f_PR_perform_325] <;> rfl)
  have J343 : ∀ (H : Heap) (locs : List Loc) (ls : Array Slot), Wd xCl E A s.heap H locs (xW E ad σ) → lv_has ls 2 [(0, .ref (ad 6))] → zI (f_PR_perform_343 σ a1) = Z → W p l e (rmo 5 122) s m ([.ref (ad 6), .int a1] : List Value).toArray below meth c H locs 0 0 (MQ below (rQ xCl (xW E ad) E A Z) ([.ref (ad 6), .int a1] : List Value).toArray s 0 0 A) (F0 m 343 ls []) := by
    intro  H locs ls w hl e343
    refine lv_aload_n hx hb d_PR_perform_343 rfl (lv_at hl 0 rfl) ?_
    refine g_PR_loadsAndStores hc w mw_213 d_PR_perform_344 ?_
    refine cVI (rest := []) hc w (c_LS_load l E ad σ) kv_LS_load mw_790 9 rfl rfl ⟨Nat.le_of_ble_eq_true rfl, Nat.le_of_ble_eq_true rfl⟩ hl.1 rfl (Nat.le_of_ble_eq_true rfl) ⟨Nat.zero_le _, Nat.zero_le _⟩ d_PR_perform_347 (fun z347 H locs hs347 w => ?_)
    have e_c7 : zI (f_PR_perform_c7 z347 a1 ) = Z := by rw [← e343, f_PR_perform_343, hs347]
    exact rt_i hc w d_PR_perform_350 (by rw [← e_c7, f_PR_perform_c7] <;> rfl)
  have J351 : ∀ (H : Heap) (locs : List Loc) (ls : Array Slot), Wd xCl E A s.heap H locs (xW E ad σ) → lv_has ls 2 [(0, .ref (ad 6))] → zI (f_PR_perform_351 σ a1) = Z → W p l e (rmo 5 122) s m ([.ref (ad 6), .int a1] : List Value).toArray below meth c H locs 0 0 (MQ below (rQ xCl (xW E ad) E A Z) ([.ref (ad 6), .int a1] : List Value).toArray s 0 0 A) (F0 m 351 ls []) := by
    intro  H locs ls w hl e351
    refine lv_aload_n hx hb d_PR_perform_351 rfl (lv_at hl 0 rfl) ?_
    refine g_PR_loadsAndStores hc w mw_213 d_PR_perform_352 ?_
    refine cVI (rest := []) hc w (c_LS_store l E ad σ) kv_LS_store mw_813 9 rfl rfl ⟨Nat.le_of_ble_eq_true rfl, Nat.le_of_ble_eq_true rfl⟩ hl.1 rfl (Nat.le_of_ble_eq_true rfl) ⟨Nat.zero_le _, Nat.zero_le _⟩ d_PR_perform_355 (fun z355 H locs hs355 w => ?_)
    have e_c6 : zI (f_PR_perform_c6 z355 a1 ) = Z := by rw [← e351, f_PR_perform_351, hs355]
    exact rt_i hc w d_PR_perform_358 (by rw [← e_c6, f_PR_perform_c6] <;> rfl)
  refine lv_iload_n hx hb d_PR_perform_0 rfl (lv_at hl 1 rfl) ?_
  by_cases q1_0 : a1 = (0 : Int32)
  · refine lv_tableIn (tgt := 268) (off := 267) hx hb d_PR_perform_1 (by rw [q1_0]; decide) (by rw [q1_0]; decide) (by rw [q1_0]; rfl) (by decide) ?_
    refine lv_aload_n hx hb d_PR_perform_268 rfl (lv_at hl 0 rfl) ?_
    refine cVI (rest := []) hc w (c_PR_performOp0 l E ad σ) kv_PR_performOp0 mw_540 6 rfl rfl ⟨Nat.le_of_ble_eq_true rfl, Nat.le_of_ble_eq_true rfl⟩ hl.1 rfl (Nat.le_of_ble_eq_true rfl) ⟨Nat.zero_le _, Nat.zero_le _⟩ d_PR_perform_269 (fun z269 H locs hs269 w => ?_)
    have e_c1 : zI (f_PR_perform_c1 z269 a1 ) = Z := by rw [← e0, f_PR_perform, if_pos q1_0, hs269]
    exact rt_i hc w d_PR_perform_272 (by rw [← e_c1, f_PR_perform_c1] <;> rfl)
  · by_cases q1_1 : a1 = (1 : Int32)
    · refine lv_tableIn (tgt := 273) (off := 272) hx hb d_PR_perform_1 (by rw [q1_1]; decide) (by rw [q1_1]; decide) (by rw [q1_1]; rfl) (by decide) ?_
      refine lv_aload_n hx hb d_PR_perform_273 rfl (lv_at hl 0 rfl) ?_
      refine cVI (rest := []) hc w (c_PR_performOp1 l E ad σ) kv_PR_performOp1 mw_640 6 rfl rfl ⟨Nat.le_of_ble_eq_true rfl, Nat.le_of_ble_eq_true rfl⟩ hl.1 rfl (Nat.le_of_ble_eq_true rfl) ⟨Nat.zero_le _, Nat.zero_le _⟩ d_PR_perform_274 (fun z274 H locs hs274 w => ?_)
      have e_c2 : zI (f_PR_perform_c2 z274 a1 ) = Z := by rw [← e0, f_PR_perform, if_neg q1_0, if_pos q1_1, hs274]
      exact rt_i hc w d_PR_perform_277 (by rw [← e_c2, f_PR_perform_c2] <;> rfl)
    · by_cases q1_2 : a1 = (2 : Int32)
      · refine lv_tableIn (tgt := 278) (off := 277) hx hb d_PR_perform_1 (by rw [q1_2]; decide) (by rw [q1_2]; decide) (by rw [q1_2]; rfl) (by decide) ?_
        refine lv_aload_n hx hb d_PR_perform_278 rfl (lv_at hl 0 rfl) ?_
        refine g_PR_branches hc w mw_212 d_PR_perform_279 ?_
        refine lv_iconst (v := 0) hx hb d_PR_perform_282 (by decide) ?_
        refine cVI (rest := []) hc w (c_BR_jump l E ad σ false) kv_BR_jump mw_671 8 rfl rfl ⟨Nat.le_of_ble_eq_true rfl, Nat.le_of_ble_eq_true rfl⟩ hl.1 rfl (Nat.le_of_ble_eq_true rfl) ⟨Nat.zero_le _, Nat.zero_le _⟩ d_PR_perform_283 (fun z283 H locs hs283 w => ?_)
        have e_c3 : zI (f_PR_perform_c3 z283 a1 ) = Z := by rw [← e0, f_PR_perform, if_neg q1_0, if_neg q1_1, if_pos q1_2, hs283]
        exact rt_i hc w d_PR_perform_286 (by rw [← e_c3, f_PR_perform_c3] <;> rfl)
      · by_cases q1_3 : a1 = (3 : Int32)
        · refine lv_tableIn (tgt := 287) (off := 286) hx hb d_PR_perform_1 (by rw [q1_3]; decide) (by rw [q1_3]; decide) (by rw [q1_3]; rfl) (by decide) ?_
          refine lv_aload_n hx hb d_PR_perform_287 rfl (lv_at hl 0 rfl) ?_
          refine g_PR_branches hc w mw_212 d_PR_perform_288 ?_
          refine lv_iconst (v := 1) hx hb d_PR_perform_291 (by decide) ?_
          refine cVI (rest := []) hc w (c_BR_jump l E ad σ true) kv_BR_jump mw_671 8 rfl rfl ⟨Nat.le_of_ble_eq_true rfl, Nat.le_of_ble_eq_true rfl⟩ hl.1 rfl (Nat.le_of_ble_eq_true rfl) ⟨Nat.zero_le _, Nat.zero_le _⟩ d_PR_perform_292 (fun z292 H locs hs292 w => ?_)
          have e_c4 : zI (f_PR_perform_c4 z292 a1 ) = Z := by rw [← e0, f_PR_perform, if_neg q1_0, if_neg q1_1, if_neg q1_2, if_pos q1_3, hs292]
          exact rt_i hc w d_PR_perform_295 (by rw [← e_c4, f_PR_perform_c4] <;> rfl)
        · by_cases q1_4 : a1 = (4 : Int32)
          · refine lv_tableIn (tgt := 296) (off := 295) hx hb d_PR_perform_1 (by rw [q1_4]; decide) (by rw [q1_4]; decide) (by rw [q1_4]; rfl) (by decide) ?_
            exact J296  _ _ _ w (lv_sub hl [0] rfl) (by rw [← e0, f_PR_perform, if_neg q1_0, if_neg q1_1, if_neg q1_2, if_neg q1_3, if_pos q1_4])
          · by_cases q1_5 : a1 = (5 : Int32)
            · refine lv_tableIn (tgt := 296) (off := 295) hx hb d_PR_perform_1 (by rw [q1_5]; decide) (by rw [q1_5]; decide) (by rw [q1_5]; rfl) (by decide) ?_
              exact J296  _ _ _ w (lv_sub hl [0] rfl) (by rw [← e0, f_PR_perform, if_neg q1_0, if_neg q1_1, if_neg q1_2, if_neg q1_3, if_neg q1_4, if_pos q1_5])
            · by_cases q1_6 : a1 = (6 : Int32)
              · refine lv_tableIn (tgt := 296) (off := 295) hx hb d_PR_perform_1 (by rw [q1_6]; decide) (by rw [q1_6]; decide) (by rw [q1_6]; rfl) (by decide) ?_
                exact J296  _ _ _ w (lv_sub hl [0] rfl) (by rw [← e0, f_PR_perform, if_neg q1_0, if_neg q1_1, if_neg q1_2, if_neg q1_3, if_neg q1_4, if_neg q1_5, if_pos q1_6])
              · by_cases q1_7 : a1 = (7 : Int32)
                · refine lv_tableIn (tgt := 296) (off := 295) hx hb d_PR_perform_1 (by rw [q1_7]; decide) (by rw [q1_7]; decide) (by rw [q1_7]; rfl) (by decide) ?_
                  exact J296  _ _ _ w (lv_sub hl [0] rfl) (by rw [← e0, f_PR_perform, if_neg q1_0, if_neg q1_1, if_neg q1_2, if_neg q1_3, if_neg q1_4, if_neg q1_5, if_neg q1_6, if_pos q1_7])
                · by_cases q1_8 : a1 = (8 : Int32)
                  · refine lv_tableIn (tgt := 304) (off := 303) hx hb d_PR_perform_1 (by rw [q1_8]; decide) (by rw [q1_8]; decide) (by rw [q1_8]; rfl) (by decide) ?_
                    exact J304  _ _ _ w (lv_sub hl [0] rfl) (by rw [← e0, f_PR_perform, if_neg q1_0, if_neg q1_1, if_neg q1_2, if_neg q1_3, if_neg q1_4, if_neg q1_5, if_neg q1_6, if_neg q1_7, if_pos q1_8])
                  · by_cases q1_9 : a1 = (9 : Int32)
                    · refine lv_tableIn (tgt := 304) (off := 303) hx hb d_PR_perform_1 (by rw [q1_9]; decide) (by rw [q1_9]; decide) (by rw [q1_9]; rfl) (by decide) ?_
                      exact J304  _ _ _ w (lv_sub hl [0] rfl) (by rw [← e0, f_PR_perform, if_neg q1_0, if_neg q1_1, if_neg q1_2, if_neg q1_3, if_neg q1_4, if_neg q1_5, if_neg q1_6, if_neg q1_7, if_neg q1_8, if_pos q1_9])
                    · by_cases q1_10 : a1 = (10 : Int32)
                      · refine lv_tableIn (tgt := 304) (off := 303) hx hb d_PR_perform_1 (by rw [q1_10]; decide) (by rw [q1_10]; decide) (by rw [q1_10]; rfl) (by decide) ?_
                        exact J304  _ _ _ w (lv_sub hl [0] rfl) (by rw [← e0, f_PR_perform, if_neg q1_0, if_neg q1_1, if_neg q1_2, if_neg q1_3, if_neg q1_4, if_neg q1_5, if_neg q1_6, if_neg q1_7, if_neg q1_8, if_neg q1_9, if_pos q1_10])
                      · by_cases q1_11 : a1 = (11 : Int32)
                        · refine lv_tableIn (tgt := 304) (off := 303) hx hb d_PR_perform_1 (by rw [q1_11]; decide) (by rw [q1_11]; decide) (by rw [q1_11]; rfl) (by decide) ?_
                          exact J304  _ _ _ w (lv_sub hl [0] rfl) (by rw [← e0, f_PR_perform, if_neg q1_0, if_neg q1_1, if_neg q1_2, if_neg q1_3, if_neg q1_4, if_neg q1_5, if_neg q1_6, if_neg q1_7, if_neg q1_8, if_neg q1_9, if_neg q1_10, if_pos q1_11])
                        · by_cases q1_12 : a1 = (12 : Int32)
                          · refine lv_tableIn (tgt := 304) (off := 303) hx hb d_PR_perform_1 (by rw [q1_12]; decide) (by rw [q1_12]; decide) (by rw [q1_12]; rfl) (by decide) ?_
                            exact J304  _ _ _ w (lv_sub hl [0] rfl) (by rw [← e0, f_PR_perform, if_neg q1_0, if_neg q1_1, if_neg q1_2, if_neg q1_3, if_neg q1_4, if_neg q1_5, if_neg q1_6, if_neg q1_7, if_neg q1_8, if_neg q1_9, if_neg q1_10, if_neg q1_11, if_pos q1_12])
                          · by_cases q1_13 : a1 = (13 : Int32)
                            · refine lv_tableIn (tgt := 304) (off := 303) hx hb d_PR_perform_1 (by rw [q1_13]; decide) (by rw [q1_13]; decide) (by rw [q1_13]; rfl) (by decide) ?_
                              exact J304  _ _ _ w (lv_sub hl [0] rfl) (by rw [← e0, f_PR_perform, if_neg q1_0, if_neg q1_1, if_neg q1_2, if_neg q1_3, if_neg q1_4, if_neg q1_5, if_neg q1_6, if_neg q1_7, if_neg q1_8, if_neg q1_9, if_neg q1_10, if_neg q1_11, if_neg q1_12, if_pos q1_13])
                            · by_cases q1_14 : a1 = (14 : Int32)
                              · refine lv_tableIn (tgt := 304) (off := 303) hx hb d_PR_perform_1 (by rw [q1_14]; decide) (by rw [q1_14]; decide) (by rw [q1_14]; rfl) (by decide) ?_
                                exact J304  _ _ _ w (lv_sub hl [0] rfl) (by rw [← e0, f_PR_perform, if_neg q1_0, if_neg q1_1, if_neg q1_2, if_neg q1_3, if_neg q1_4, if_neg q1_5, if_neg q1_6, if_neg q1_7, if_neg q1_8, if_neg q1_9, if_neg q1_10, if_neg q1_11, if_neg q1_12, if_neg q1_13, if_pos q1_14])
                              · by_cases q1_15 : a1 = (15 : Int32)
                                · refine lv_tableIn (tgt := 304) (off := 303) hx hb d_PR_perform_1 (by rw [q1_15]; decide) (by rw [q1_15]; decide) (by rw [q1_15]; rfl) (by decide) ?_
                                  exact J304  _ _ _ w (lv_sub hl [0] rfl) (by rw [← e0, f_PR_perform, if_neg q1_0, if_neg q1_1, if_neg q1_2, if_neg q1_3, if_neg q1_4, if_neg q1_5, if_neg q1_6, if_neg q1_7, if_neg q1_8, if_neg q1_9, if_neg q1_10, if_neg q1_11, if_neg q1_12, if_neg q1_13, if_neg q1_14, if_pos q1_15])
                                · by_cases q1_16 : a1 = (16 : Int32)
                                  · refine lv_tableIn (tgt := 312) (off := 311) hx hb d_PR_perform_1 (by rw [q1_16]; decide) (by rw [q1_16]; decide) (by rw [q1_16]; rfl) (by decide) ?_
                                    exact J312  _ _ _ w (lv_sub hl [0] rfl) (by rw [← e0, f_PR_perform, if_neg q1_0, if_neg q1_1, if_neg q1_2, if_neg q1_3, if_neg q1_4, if_neg q1_5, if_neg q1_6, if_neg q1_7, if_neg q1_8, if_neg q1_9, if_neg q1_10, if_neg q1_11, if_neg q1_12, if_neg q1_13, if_neg q1_14, if_neg q1_15, if_pos q1_16])
                                  · by_cases q1_17 : a1 = (17 : Int32)
                                    · refine lv_tableIn (tgt := 320) (off := 319) hx hb d_PR_perform_1 (by rw [q1_17]; decide) (by rw [q1_17]; decide) (by rw [q1_17]; rfl) (by decide) ?_
                                      exact J320  _ _ _ w (lv_sub hl [] rfl) (by rw [← e0, f_PR_perform, if_neg q1_0, if_neg q1_1, if_neg q1_2, if_neg q1_3, if_neg q1_4, if_neg q1_5, if_neg q1_6, if_neg q1_7, if_neg q1_8, if_neg q1_9, if_neg q1_10, if_neg q1_11, if_neg q1_12, if_neg q1_13, if_neg q1_14, if_neg q1_15, if_neg q1_16, if_pos q1_17])
                                    · by_cases q1_18 : a1 = (18 : Int32)
                                      · refine lv_tableIn (tgt := 325) (off := 324) hx hb d_PR_perform_1 (by rw [q1_18]; decide) (by rw [q1_18]; decide) (by rw [q1_18]; rfl) (by decide) ?_
                                        exact J325  _ _ _ w (lv_sub hl [] rfl) (by rw [← e0, f_PR_perform, if_neg q1_0, if_neg q1_1, if_neg q1_2, if_neg q1_3, if_neg q1_4, if_neg q1_5, if_neg q1_6, if_neg q1_7, if_neg q1_8, if_neg q1_9, if_neg q1_10, if_neg q1_11, if_neg q1_12, if_neg q1_13, if_neg q1_14, if_neg q1_15, if_neg q1_16, if_neg q1_17, if_pos q1_18])
                                      · by_cases q1_19 : a1 = (19 : Int32)
                                        · refine lv_tableIn (tgt := 330) (off := 329) hx hb d_PR_perform_1 (by rw [q1_19]; decide) (by rw [q1_19]; decide) (by rw [q1_19]; rfl) (by decide) ?_
                                          refine lv_iconst (v := 3) hx hb d_PR_perform_330 (by decide) ?_
                                          refine rSI (rest := []) hc w (c_FA_noCoprocessor l E ad σ (3 : Int32)) ks_FA_noCoprocessor mw_777 ⟨Nat.le_of_ble_eq_true rfl, Nat.le_of_ble_eq_true rfl⟩ hl.1 rfl (Nat.le_of_ble_eq_true rfl) ⟨Nat.zero_le _, Nat.zero_le _⟩ d_PR_perform_331 (fun H locs w => ?_)
                                          exact rt_i hc w d_PR_perform_334 (by rw [← e0, f_PR_perform, if_neg q1_0, if_neg q1_1, if_neg q1_2, if_neg q1_3, if_neg q1_4, if_neg q1_5, if_neg q1_6, if_neg q1_7, if_neg q1_8, if_neg q1_9, if_neg q1_10, if_neg q1_11, if_neg q1_12, if_neg q1_13, if_neg q1_14, if_neg q1_15, if_neg q1_16, if_neg q1_17, if_neg q1_18, if_pos q1_19] <;> rfl)
                                        · by_cases q1_20 : a1 = (20 : Int32)
                                          · refine lv_tableIn (tgt := 296) (off := 295) hx hb d_PR_perform_1 (by rw [q1_20]; decide) (by rw [q1_20]; decide) (by rw [q1_20]; rfl) (by decide) ?_
                                            exact J296  _ _ _ w (lv_sub hl [0] rfl) (by rw [← e0, f_PR_perform, if_neg q1_0, if_neg q1_1, if_neg q1_2, if_neg q1_3, if_neg q1_4, if_neg q1_5, if_neg q1_6, if_neg q1_7, if_neg q1_8, if_neg q1_9, if_neg q1_10, if_neg q1_11, if_neg q1_12, if_neg q1_13, if_neg q1_14, if_neg q1_15, if_neg q1_16, if_neg q1_17, if_neg q1_18, if_neg q1_19, if_pos q1_20])
                                          · by_cases q1_21 : a1 = (21 : Int32)
                                            · refine lv_tableIn (tgt := 296) (off := 295) hx hb d_PR_perform_1 (by rw [q1_21]; decide) (by rw [q1_21]; decide) (by rw [q1_21]; rfl) (by decide) ?_
                                              exact J296  _ _ _ w (lv_sub hl [0] rfl) (by rw [← e0, f_PR_perform, if_neg q1_0, if_neg q1_1, if_neg q1_2, if_neg q1_3, if_neg q1_4, if_neg q1_5, if_neg q1_6, if_neg q1_7, if_neg q1_8, if_neg q1_9, if_neg q1_10, if_neg q1_11, if_neg q1_12, if_neg q1_13, if_neg q1_14, if_neg q1_15, if_neg q1_16, if_neg q1_17, if_neg q1_18, if_neg q1_19, if_neg q1_20, if_pos q1_21])
                                            · by_cases q1_22 : a1 = (22 : Int32)
                                              · refine lv_tableIn (tgt := 296) (off := 295) hx hb d_PR_perform_1 (by rw [q1_22]; decide) (by rw [q1_22]; decide) (by rw [q1_22]; rfl) (by decide) ?_
                                                exact J296  _ _ _ w (lv_sub hl [0] rfl) (by rw [← e0, f_PR_perform, if_neg q1_0, if_neg q1_1, if_neg q1_2, if_neg q1_3, if_neg q1_4, if_neg q1_5, if_neg q1_6, if_neg q1_7, if_neg q1_8, if_neg q1_9, if_neg q1_10, if_neg q1_11, if_neg q1_12, if_neg q1_13, if_neg q1_14, if_neg q1_15, if_neg q1_16, if_neg q1_17, if_neg q1_18, if_neg q1_19, if_neg q1_20, if_neg q1_21, if_pos q1_22])
                                              · by_cases q1_23 : a1 = (23 : Int32)
                                                · refine lv_tableIn (tgt := 296) (off := 295) hx hb d_PR_perform_1 (by rw [q1_23]; decide) (by rw [q1_23]; decide) (by rw [q1_23]; rfl) (by decide) ?_
                                                  exact J296  _ _ _ w (lv_sub hl [0] rfl) (by rw [← e0, f_PR_perform, if_neg q1_0, if_neg q1_1, if_neg q1_2, if_neg q1_3, if_neg q1_4, if_neg q1_5, if_neg q1_6, if_neg q1_7, if_neg q1_8, if_neg q1_9, if_neg q1_10, if_neg q1_11, if_neg q1_12, if_neg q1_13, if_neg q1_14, if_neg q1_15, if_neg q1_16, if_neg q1_17, if_neg q1_18, if_neg q1_19, if_neg q1_20, if_neg q1_21, if_neg q1_22, if_pos q1_23])
                                                · by_cases q1_24 : a1 = (24 : Int32)
                                                  · refine lv_tableIn (tgt := 361) (off := 360) hx hb d_PR_perform_1 (by rw [q1_24]; decide) (by rw [q1_24]; decide) (by rw [q1_24]; rfl) (by decide) ?_
                                                    refine lv_bipush (v := 10) hx hb d_PR_perform_361 (by decide) ?_
                                                    exact rt_i hc w d_PR_perform_363 (by rw [← e0, f_PR_perform, if_neg q1_0, if_neg q1_1, if_neg q1_2, if_neg q1_3, if_neg q1_4, if_neg q1_5, if_neg q1_6, if_neg q1_7, if_neg q1_8, if_neg q1_9, if_neg q1_10, if_neg q1_11, if_neg q1_12, if_neg q1_13, if_neg q1_14, if_neg q1_15, if_neg q1_16, if_neg q1_17, if_neg q1_18, if_neg q1_19, if_neg q1_20, if_neg q1_21, if_neg q1_22, if_neg q1_23, if_pos q1_24] <;> rfl)
                                                  · by_cases q1_25 : a1 = (25 : Int32)
                                                    · refine lv_tableIn (tgt := 361) (off := 360) hx hb d_PR_perform_1 (by rw [q1_25]; decide) (by rw [q1_25]; decide) (by rw [q1_25]; rfl) (by decide) ?_
                                                      refine lv_bipush (v := 10) hx hb d_PR_perform_361 (by decide) ?_
                                                      exact rt_i hc w d_PR_perform_363 (by rw [← e0, f_PR_perform, if_neg q1_0, if_neg q1_1, if_neg q1_2, if_neg q1_3, if_neg q1_4, if_neg q1_5, if_neg q1_6, if_neg q1_7, if_neg q1_8, if_neg q1_9, if_neg q1_10, if_neg q1_11, if_neg q1_12, if_neg q1_13, if_neg q1_14, if_neg q1_15, if_neg q1_16, if_neg q1_17, if_neg q1_18, if_neg q1_19, if_neg q1_20, if_neg q1_21, if_neg q1_22, if_neg q1_23, if_neg q1_24, if_pos q1_25] <;> rfl)
                                                    · by_cases q1_26 : a1 = (26 : Int32)
                                                      · refine lv_tableIn (tgt := 361) (off := 360) hx hb d_PR_perform_1 (by rw [q1_26]; decide) (by rw [q1_26]; decide) (by rw [q1_26]; rfl) (by decide) ?_
                                                        refine lv_bipush (v := 10) hx hb d_PR_perform_361 (by decide) ?_
                                                        exact rt_i hc w d_PR_perform_363 (by rw [← e0, f_PR_perform, if_neg q1_0, if_neg q1_1, if_neg q1_2, if_neg q1_3, if_neg q1_4, if_neg q1_5, if_neg q1_6, if_neg q1_7, if_neg q1_8, if_neg q1_9, if_neg q1_10, if_neg q1_11, if_neg q1_12, if_neg q1_13, if_neg q1_14, if_neg q1_15, if_neg q1_16, if_neg q1_17, if_neg q1_18, if_neg q1_19, if_neg q1_20, if_neg q1_21, if_neg q1_22, if_neg q1_23, if_neg q1_24, if_neg q1_25, if_pos q1_26] <;> rfl)
                                                      · by_cases q1_27 : a1 = (27 : Int32)
                                                        · refine lv_tableIn (tgt := 361) (off := 360) hx hb d_PR_perform_1 (by rw [q1_27]; decide) (by rw [q1_27]; decide) (by rw [q1_27]; rfl) (by decide) ?_
                                                          refine lv_bipush (v := 10) hx hb d_PR_perform_361 (by decide) ?_
                                                          exact rt_i hc w d_PR_perform_363 (by rw [← e0, f_PR_perform, if_neg q1_0, if_neg q1_1, if_neg q1_2, if_neg q1_3, if_neg q1_4, if_neg q1_5, if_neg q1_6, if_neg q1_7, if_neg q1_8, if_neg q1_9, if_neg q1_10, if_neg q1_11, if_neg q1_12, if_neg q1_13, if_neg q1_14, if_neg q1_15, if_neg q1_16, if_neg q1_17, if_neg q1_18, if_neg q1_19, if_neg q1_20, if_neg q1_21, if_neg q1_22, if_neg q1_23, if_neg q1_24, if_neg q1_25, if_neg q1_26, if_pos q1_27] <;> rfl)
                                                        · by_cases q1_28 : a1 = (28 : Int32)
                                                          · refine lv_tableIn (tgt := 335) (off := 334) hx hb d_PR_perform_1 (by rw [q1_28]; decide) (by rw [q1_28]; decide) (by rw [q1_28]; rfl) (by decide) ?_
                                                            refine lv_aload_n hx hb d_PR_perform_335 rfl (lv_at hl 0 rfl) ?_
                                                            refine g_PR_arithmetic hc w mw_211 d_PR_perform_336 ?_
                                                            refine cVI (rest := []) hc w (c_AR_performOp1C l E ad σ) kv_AR_performOp1C mw_778 7 rfl rfl ⟨Nat.le_of_ble_eq_true rfl, Nat.le_of_ble_eq_true rfl⟩ hl.1 rfl (Nat.le_of_ble_eq_true rfl) ⟨Nat.zero_le _, Nat.zero_le _⟩ d_PR_perform_339 (fun z339 H locs hs339 w => ?_)
                                                            have e_c5 : zI (f_PR_perform_c5 z339 a1 ) = Z := by rw [← e0, f_PR_perform, if_neg q1_0, if_neg q1_1, if_neg q1_2, if_neg q1_3, if_neg q1_4, if_neg q1_5, if_neg q1_6, if_neg q1_7, if_neg q1_8, if_neg q1_9, if_neg q1_10, if_neg q1_11, if_neg q1_12, if_neg q1_13, if_neg q1_14, if_neg q1_15, if_neg q1_16, if_neg q1_17, if_neg q1_18, if_neg q1_19, if_neg q1_20, if_neg q1_21, if_neg q1_22, if_neg q1_23, if_neg q1_24, if_neg q1_25, if_neg q1_26, if_neg q1_27, if_pos q1_28, hs339]
                                                            exact rt_i hc w d_PR_perform_342 (by rw [← e_c5, f_PR_perform_c5] <;> rfl)
                                                          · by_cases q1_29 : a1 = (29 : Int32)
                                                            · refine lv_tableIn (tgt := 361) (off := 360) hx hb d_PR_perform_1 (by rw [q1_29]; decide) (by rw [q1_29]; decide) (by rw [q1_29]; rfl) (by decide) ?_
                                                              refine lv_bipush (v := 10) hx hb d_PR_perform_361 (by decide) ?_
                                                              exact rt_i hc w d_PR_perform_363 (by rw [← e0, f_PR_perform, if_neg q1_0, if_neg q1_1, if_neg q1_2, if_neg q1_3, if_neg q1_4, if_neg q1_5, if_neg q1_6, if_neg q1_7, if_neg q1_8, if_neg q1_9, if_neg q1_10, if_neg q1_11, if_neg q1_12, if_neg q1_13, if_neg q1_14, if_neg q1_15, if_neg q1_16, if_neg q1_17, if_neg q1_18, if_neg q1_19, if_neg q1_20, if_neg q1_21, if_neg q1_22, if_neg q1_23, if_neg q1_24, if_neg q1_25, if_neg q1_26, if_neg q1_27, if_neg q1_28, if_pos q1_29] <;> rfl)
                                                            · by_cases q1_30 : a1 = (30 : Int32)
                                                              · refine lv_tableIn (tgt := 361) (off := 360) hx hb d_PR_perform_1 (by rw [q1_30]; decide) (by rw [q1_30]; decide) (by rw [q1_30]; rfl) (by decide) ?_
                                                                refine lv_bipush (v := 10) hx hb d_PR_perform_361 (by decide) ?_
                                                                exact rt_i hc w d_PR_perform_363 (by rw [← e0, f_PR_perform, if_neg q1_0, if_neg q1_1, if_neg q1_2, if_neg q1_3, if_neg q1_4, if_neg q1_5, if_neg q1_6, if_neg q1_7, if_neg q1_8, if_neg q1_9, if_neg q1_10, if_neg q1_11, if_neg q1_12, if_neg q1_13, if_neg q1_14, if_neg q1_15, if_neg q1_16, if_neg q1_17, if_neg q1_18, if_neg q1_19, if_neg q1_20, if_neg q1_21, if_neg q1_22, if_neg q1_23, if_neg q1_24, if_neg q1_25, if_neg q1_26, if_neg q1_27, if_neg q1_28, if_neg q1_29, if_pos q1_30] <;> rfl)
                                                              · by_cases q1_31 : a1 = (31 : Int32)
                                                                · refine lv_tableIn (tgt := 361) (off := 360) hx hb d_PR_perform_1 (by rw [q1_31]; decide) (by rw [q1_31]; decide) (by rw [q1_31]; rfl) (by decide) ?_
                                                                  refine lv_bipush (v := 10) hx hb d_PR_perform_361 (by decide) ?_
                                                                  exact rt_i hc w d_PR_perform_363 (by rw [← e0, f_PR_perform, if_neg q1_0, if_neg q1_1, if_neg q1_2, if_neg q1_3, if_neg q1_4, if_neg q1_5, if_neg q1_6, if_neg q1_7, if_neg q1_8, if_neg q1_9, if_neg q1_10, if_neg q1_11, if_neg q1_12, if_neg q1_13, if_neg q1_14, if_neg q1_15, if_neg q1_16, if_neg q1_17, if_neg q1_18, if_neg q1_19, if_neg q1_20, if_neg q1_21, if_neg q1_22, if_neg q1_23, if_neg q1_24, if_neg q1_25, if_neg q1_26, if_neg q1_27, if_neg q1_28, if_neg q1_29, if_neg q1_30, if_pos q1_31] <;> rfl)
                                                                · by_cases q1_32 : a1 = (32 : Int32)
                                                                  · refine lv_tableIn (tgt := 343) (off := 342) hx hb d_PR_perform_1 (by rw [q1_32]; decide) (by rw [q1_32]; decide) (by rw [q1_32]; rfl) (by decide) ?_
                                                                    exact J343  _ _ _ w (lv_sub hl [0] rfl) (by rw [← e0, f_PR_perform, if_neg q1_0, if_neg q1_1, if_neg q1_2, if_neg q1_3, if_neg q1_4, if_neg q1_5, if_neg q1_6, if_neg q1_7, if_neg q1_8, if_neg q1_9, if_neg q1_10, if_neg q1_11, if_neg q1_12, if_neg q1_13, if_neg q1_14, if_neg q1_15, if_neg q1_16, if_neg q1_17, if_neg q1_18, if_neg q1_19, if_neg q1_20, if_neg q1_21, if_neg q1_22, if_neg q1_23, if_neg q1_24, if_neg q1_25, if_neg q1_26, if_neg q1_27, if_neg q1_28, if_neg q1_29, if_neg q1_30, if_neg q1_31, if_pos q1_32])
                                                                  · by_cases q1_33 : a1 = (33 : Int32)
                                                                    · refine lv_tableIn (tgt := 343) (off := 342) hx hb d_PR_perform_1 (by rw [q1_33]; decide) (by rw [q1_33]; decide) (by rw [q1_33]; rfl) (by decide) ?_
                                                                      exact J343  _ _ _ w (lv_sub hl [0] rfl) (by rw [← e0, f_PR_perform, if_neg q1_0, if_neg q1_1, if_neg q1_2, if_neg q1_3, if_neg q1_4, if_neg q1_5, if_neg q1_6, if_neg q1_7, if_neg q1_8, if_neg q1_9, if_neg q1_10, if_neg q1_11, if_neg q1_12, if_neg q1_13, if_neg q1_14, if_neg q1_15, if_neg q1_16, if_neg q1_17, if_neg q1_18, if_neg q1_19, if_neg q1_20, if_neg q1_21, if_neg q1_22, if_neg q1_23, if_neg q1_24, if_neg q1_25, if_neg q1_26, if_neg q1_27, if_neg q1_28, if_neg q1_29, if_neg q1_30, if_neg q1_31, if_neg q1_32, if_pos q1_33])
                                                                    · by_cases q1_34 : a1 = (34 : Int32)
                                                                      · refine lv_tableIn (tgt := 343) (off := 342) hx hb d_PR_perform_1 (by rw [q1_34]; decide) (by rw [q1_34]; decide) (by rw [q1_34]; rfl) (by decide) ?_
                                                                        exact J343  _ _ _ w (lv_sub hl [0] rfl) (by rw [← e0, f_PR_perform, if_neg q1_0, if_neg q1_1, if_neg q1_2, if_neg q1_3, if_neg q1_4, if_neg q1_5, if_neg q1_6, if_neg q1_7, if_neg q1_8, if_neg q1_9, if_neg q1_10, if_neg q1_11, if_neg q1_12, if_neg q1_13, if_neg q1_14, if_neg q1_15, if_neg q1_16, if_neg q1_17, if_neg q1_18, if_neg q1_19, if_neg q1_20, if_neg q1_21, if_neg q1_22, if_neg q1_23, if_neg q1_24, if_neg q1_25, if_neg q1_26, if_neg q1_27, if_neg q1_28, if_neg q1_29, if_neg q1_30, if_neg q1_31, if_neg q1_32, if_neg q1_33, if_pos q1_34])
                                                                      · by_cases q1_35 : a1 = (35 : Int32)
                                                                        · refine lv_tableIn (tgt := 343) (off := 342) hx hb d_PR_perform_1 (by rw [q1_35]; decide) (by rw [q1_35]; decide) (by rw [q1_35]; rfl) (by decide) ?_
                                                                          exact J343  _ _ _ w (lv_sub hl [0] rfl) (by rw [← e0, f_PR_perform, if_neg q1_0, if_neg q1_1, if_neg q1_2, if_neg q1_3, if_neg q1_4, if_neg q1_5, if_neg q1_6, if_neg q1_7, if_neg q1_8, if_neg q1_9, if_neg q1_10, if_neg q1_11, if_neg q1_12, if_neg q1_13, if_neg q1_14, if_neg q1_15, if_neg q1_16, if_neg q1_17, if_neg q1_18, if_neg q1_19, if_neg q1_20, if_neg q1_21, if_neg q1_22, if_neg q1_23, if_neg q1_24, if_neg q1_25, if_neg q1_26, if_neg q1_27, if_neg q1_28, if_neg q1_29, if_neg q1_30, if_neg q1_31, if_neg q1_32, if_neg q1_33, if_neg q1_34, if_pos q1_35])
                                                                        · by_cases q1_36 : a1 = (36 : Int32)
                                                                          · refine lv_tableIn (tgt := 343) (off := 342) hx hb d_PR_perform_1 (by rw [q1_36]; decide) (by rw [q1_36]; decide) (by rw [q1_36]; rfl) (by decide) ?_
                                                                            exact J343  _ _ _ w (lv_sub hl [0] rfl) (by rw [← e0, f_PR_perform, if_neg q1_0, if_neg q1_1, if_neg q1_2, if_neg q1_3, if_neg q1_4, if_neg q1_5, if_neg q1_6, if_neg q1_7, if_neg q1_8, if_neg q1_9, if_neg q1_10, if_neg q1_11, if_neg q1_12, if_neg q1_13, if_neg q1_14, if_neg q1_15, if_neg q1_16, if_neg q1_17, if_neg q1_18, if_neg q1_19, if_neg q1_20, if_neg q1_21, if_neg q1_22, if_neg q1_23, if_neg q1_24, if_neg q1_25, if_neg q1_26, if_neg q1_27, if_neg q1_28, if_neg q1_29, if_neg q1_30, if_neg q1_31, if_neg q1_32, if_neg q1_33, if_neg q1_34, if_neg q1_35, if_pos q1_36])
                                                                          · by_cases q1_37 : a1 = (37 : Int32)
                                                                            · refine lv_tableIn (tgt := 343) (off := 342) hx hb d_PR_perform_1 (by rw [q1_37]; decide) (by rw [q1_37]; decide) (by rw [q1_37]; rfl) (by decide) ?_
                                                                              exact J343  _ _ _ w (lv_sub hl [0] rfl) (by rw [← e0, f_PR_perform, if_neg q1_0, if_neg q1_1, if_neg q1_2, if_neg q1_3, if_neg q1_4, if_neg q1_5, if_neg q1_6, if_neg q1_7, if_neg q1_8, if_neg q1_9, if_neg q1_10, if_neg q1_11, if_neg q1_12, if_neg q1_13, if_neg q1_14, if_neg q1_15, if_neg q1_16, if_neg q1_17, if_neg q1_18, if_neg q1_19, if_neg q1_20, if_neg q1_21, if_neg q1_22, if_neg q1_23, if_neg q1_24, if_neg q1_25, if_neg q1_26, if_neg q1_27, if_neg q1_28, if_neg q1_29, if_neg q1_30, if_neg q1_31, if_neg q1_32, if_neg q1_33, if_neg q1_34, if_neg q1_35, if_neg q1_36, if_pos q1_37])
                                                                            · by_cases q1_38 : a1 = (38 : Int32)
                                                                              · refine lv_tableIn (tgt := 343) (off := 342) hx hb d_PR_perform_1 (by rw [q1_38]; decide) (by rw [q1_38]; decide) (by rw [q1_38]; rfl) (by decide) ?_
                                                                                exact J343  _ _ _ w (lv_sub hl [0] rfl) (by rw [← e0, f_PR_perform, if_neg q1_0, if_neg q1_1, if_neg q1_2, if_neg q1_3, if_neg q1_4, if_neg q1_5, if_neg q1_6, if_neg q1_7, if_neg q1_8, if_neg q1_9, if_neg q1_10, if_neg q1_11, if_neg q1_12, if_neg q1_13, if_neg q1_14, if_neg q1_15, if_neg q1_16, if_neg q1_17, if_neg q1_18, if_neg q1_19, if_neg q1_20, if_neg q1_21, if_neg q1_22, if_neg q1_23, if_neg q1_24, if_neg q1_25, if_neg q1_26, if_neg q1_27, if_neg q1_28, if_neg q1_29, if_neg q1_30, if_neg q1_31, if_neg q1_32, if_neg q1_33, if_neg q1_34, if_neg q1_35, if_neg q1_36, if_neg q1_37, if_pos q1_38])
                                                                              · by_cases q1_39 : a1 = (39 : Int32)
                                                                                · refine lv_tableIn (tgt := 361) (off := 360) hx hb d_PR_perform_1 (by rw [q1_39]; decide) (by rw [q1_39]; decide) (by rw [q1_39]; rfl) (by decide) ?_
                                                                                  refine lv_bipush (v := 10) hx hb d_PR_perform_361 (by decide) ?_
                                                                                  exact rt_i hc w d_PR_perform_363 (by rw [← e0, f_PR_perform, if_neg q1_0, if_neg q1_1, if_neg q1_2, if_neg q1_3, if_neg q1_4, if_neg q1_5, if_neg q1_6, if_neg q1_7, if_neg q1_8, if_neg q1_9, if_neg q1_10, if_neg q1_11, if_neg q1_12, if_neg q1_13, if_neg q1_14, if_neg q1_15, if_neg q1_16, if_neg q1_17, if_neg q1_18, if_neg q1_19, if_neg q1_20, if_neg q1_21, if_neg q1_22, if_neg q1_23, if_neg q1_24, if_neg q1_25, if_neg q1_26, if_neg q1_27, if_neg q1_28, if_neg q1_29, if_neg q1_30, if_neg q1_31, if_neg q1_32, if_neg q1_33, if_neg q1_34, if_neg q1_35, if_neg q1_36, if_neg q1_37, if_neg q1_38, if_pos q1_39] <;> rfl)
                                                                                · by_cases q1_40 : a1 = (40 : Int32)
                                                                                  · refine lv_tableIn (tgt := 351) (off := 350) hx hb d_PR_perform_1 (by rw [q1_40]; decide) (by rw [q1_40]; decide) (by rw [q1_40]; rfl) (by decide) ?_
                                                                                    exact J351  _ _ _ w (lv_sub hl [0] rfl) (by rw [← e0, f_PR_perform, if_neg q1_0, if_neg q1_1, if_neg q1_2, if_neg q1_3, if_neg q1_4, if_neg q1_5, if_neg q1_6, if_neg q1_7, if_neg q1_8, if_neg q1_9, if_neg q1_10, if_neg q1_11, if_neg q1_12, if_neg q1_13, if_neg q1_14, if_neg q1_15, if_neg q1_16, if_neg q1_17, if_neg q1_18, if_neg q1_19, if_neg q1_20, if_neg q1_21, if_neg q1_22, if_neg q1_23, if_neg q1_24, if_neg q1_25, if_neg q1_26, if_neg q1_27, if_neg q1_28, if_neg q1_29, if_neg q1_30, if_neg q1_31, if_neg q1_32, if_neg q1_33, if_neg q1_34, if_neg q1_35, if_neg q1_36, if_neg q1_37, if_neg q1_38, if_neg q1_39, if_pos q1_40])
                                                                                  · by_cases q1_41 : a1 = (41 : Int32)
                                                                                    · refine lv_tableIn (tgt := 351) (off := 350) hx hb d_PR_perform_1 (by rw [q1_41]; decide) (by rw [q1_41]; decide) (by rw [q1_41]; rfl) (by decide) ?_
                                                                                      exact J351  _ _ _ w (lv_sub hl [0] rfl) (by rw [← e0, f_PR_perform, if_neg q1_0, if_neg q1_1, if_neg q1_2, if_neg q1_3, if_neg q1_4, if_neg q1_5, if_neg q1_6, if_neg q1_7, if_neg q1_8, if_neg q1_9, if_neg q1_10, if_neg q1_11, if_neg q1_12, if_neg q1_13, if_neg q1_14, if_neg q1_15, if_neg q1_16, if_neg q1_17, if_neg q1_18, if_neg q1_19, if_neg q1_20, if_neg q1_21, if_neg q1_22, if_neg q1_23, if_neg q1_24, if_neg q1_25, if_neg q1_26, if_neg q1_27, if_neg q1_28, if_neg q1_29, if_neg q1_30, if_neg q1_31, if_neg q1_32, if_neg q1_33, if_neg q1_34, if_neg q1_35, if_neg q1_36, if_neg q1_37, if_neg q1_38, if_neg q1_39, if_neg q1_40, if_pos q1_41])
                                                                                    · by_cases q1_42 : a1 = (42 : Int32)
                                                                                      · refine lv_tableIn (tgt := 351) (off := 350) hx hb d_PR_perform_1 (by rw [q1_42]; decide) (by rw [q1_42]; decide) (by rw [q1_42]; rfl) (by decide) ?_
                                                                                        exact J351  _ _ _ w (lv_sub hl [0] rfl) (by rw [← e0, f_PR_perform, if_neg q1_0, if_neg q1_1, if_neg q1_2, if_neg q1_3, if_neg q1_4, if_neg q1_5, if_neg q1_6, if_neg q1_7, if_neg q1_8, if_neg q1_9, if_neg q1_10, if_neg q1_11, if_neg q1_12, if_neg q1_13, if_neg q1_14, if_neg q1_15, if_neg q1_16, if_neg q1_17, if_neg q1_18, if_neg q1_19, if_neg q1_20, if_neg q1_21, if_neg q1_22, if_neg q1_23, if_neg q1_24, if_neg q1_25, if_neg q1_26, if_neg q1_27, if_neg q1_28, if_neg q1_29, if_neg q1_30, if_neg q1_31, if_neg q1_32, if_neg q1_33, if_neg q1_34, if_neg q1_35, if_neg q1_36, if_neg q1_37, if_neg q1_38, if_neg q1_39, if_neg q1_40, if_neg q1_41, if_pos q1_42])
                                                                                      · by_cases q1_43 : a1 = (43 : Int32)
                                                                                        · refine lv_tableIn (tgt := 351) (off := 350) hx hb d_PR_perform_1 (by rw [q1_43]; decide) (by rw [q1_43]; decide) (by rw [q1_43]; rfl) (by decide) ?_
                                                                                          exact J351  _ _ _ w (lv_sub hl [0] rfl) (by rw [← e0, f_PR_perform, if_neg q1_0, if_neg q1_1, if_neg q1_2, if_neg q1_3, if_neg q1_4, if_neg q1_5, if_neg q1_6, if_neg q1_7, if_neg q1_8, if_neg q1_9, if_neg q1_10, if_neg q1_11, if_neg q1_12, if_neg q1_13, if_neg q1_14, if_neg q1_15, if_neg q1_16, if_neg q1_17, if_neg q1_18, if_neg q1_19, if_neg q1_20, if_neg q1_21, if_neg q1_22, if_neg q1_23, if_neg q1_24, if_neg q1_25, if_neg q1_26, if_neg q1_27, if_neg q1_28, if_neg q1_29, if_neg q1_30, if_neg q1_31, if_neg q1_32, if_neg q1_33, if_neg q1_34, if_neg q1_35, if_neg q1_36, if_neg q1_37, if_neg q1_38, if_neg q1_39, if_neg q1_40, if_neg q1_41, if_neg q1_42, if_pos q1_43])
                                                                                        · by_cases q1_44 : a1 = (44 : Int32)
                                                                                          · refine lv_tableIn (tgt := 361) (off := 360) hx hb d_PR_perform_1 (by rw [q1_44]; decide) (by rw [q1_44]; decide) (by rw [q1_44]; rfl) (by decide) ?_
                                                                                            refine lv_bipush (v := 10) hx hb d_PR_perform_361 (by decide) ?_
                                                                                            exact rt_i hc w d_PR_perform_363 (by rw [← e0, f_PR_perform, if_neg q1_0, if_neg q1_1, if_neg q1_2, if_neg q1_3, if_neg q1_4, if_neg q1_5, if_neg q1_6, if_neg q1_7, if_neg q1_8, if_neg q1_9, if_neg q1_10, if_neg q1_11, if_neg q1_12, if_neg q1_13, if_neg q1_14, if_neg q1_15, if_neg q1_16, if_neg q1_17, if_neg q1_18, if_neg q1_19, if_neg q1_20, if_neg q1_21, if_neg q1_22, if_neg q1_23, if_neg q1_24, if_neg q1_25, if_neg q1_26, if_neg q1_27, if_neg q1_28, if_neg q1_29, if_neg q1_30, if_neg q1_31, if_neg q1_32, if_neg q1_33, if_neg q1_34, if_neg q1_35, if_neg q1_36, if_neg q1_37, if_neg q1_38, if_neg q1_39, if_neg q1_40, if_neg q1_41, if_neg q1_42, if_neg q1_43, if_pos q1_44] <;> rfl)
                                                                                          · by_cases q1_45 : a1 = (45 : Int32)
                                                                                            · refine lv_tableIn (tgt := 361) (off := 360) hx hb d_PR_perform_1 (by rw [q1_45]; decide) (by rw [q1_45]; decide) (by rw [q1_45]; rfl) (by decide) ?_
                                                                                              refine lv_bipush (v := 10) hx hb d_PR_perform_361 (by decide) ?_
                                                                                              exact rt_i hc w d_PR_perform_363 (by rw [← e0, f_PR_perform, if_neg q1_0, if_neg q1_1, if_neg q1_2, if_neg q1_3, if_neg q1_4, if_neg q1_5, if_neg q1_6, if_neg q1_7, if_neg q1_8, if_neg q1_9, if_neg q1_10, if_neg q1_11, if_neg q1_12, if_neg q1_13, if_neg q1_14, if_neg q1_15, if_neg q1_16, if_neg q1_17, if_neg q1_18, if_neg q1_19, if_neg q1_20, if_neg q1_21, if_neg q1_22, if_neg q1_23, if_neg q1_24, if_neg q1_25, if_neg q1_26, if_neg q1_27, if_neg q1_28, if_neg q1_29, if_neg q1_30, if_neg q1_31, if_neg q1_32, if_neg q1_33, if_neg q1_34, if_neg q1_35, if_neg q1_36, if_neg q1_37, if_neg q1_38, if_neg q1_39, if_neg q1_40, if_neg q1_41, if_neg q1_42, if_neg q1_43, if_neg q1_44, if_pos q1_45] <;> rfl)
                                                                                            · by_cases q1_46 : a1 = (46 : Int32)
                                                                                              · refine lv_tableIn (tgt := 351) (off := 350) hx hb d_PR_perform_1 (by rw [q1_46]; decide) (by rw [q1_46]; decide) (by rw [q1_46]; rfl) (by decide) ?_
                                                                                                exact J351  _ _ _ w (lv_sub hl [0] rfl) (by rw [← e0, f_PR_perform, if_neg q1_0, if_neg q1_1, if_neg q1_2, if_neg q1_3, if_neg q1_4, if_neg q1_5, if_neg q1_6, if_neg q1_7, if_neg q1_8, if_neg q1_9, if_neg q1_10, if_neg q1_11, if_neg q1_12, if_neg q1_13, if_neg q1_14, if_neg q1_15, if_neg q1_16, if_neg q1_17, if_neg q1_18, if_neg q1_19, if_neg q1_20, if_neg q1_21, if_neg q1_22, if_neg q1_23, if_neg q1_24, if_neg q1_25, if_neg q1_26, if_neg q1_27, if_neg q1_28, if_neg q1_29, if_neg q1_30, if_neg q1_31, if_neg q1_32, if_neg q1_33, if_neg q1_34, if_neg q1_35, if_neg q1_36, if_neg q1_37, if_neg q1_38, if_neg q1_39, if_neg q1_40, if_neg q1_41, if_neg q1_42, if_neg q1_43, if_neg q1_44, if_neg q1_45, if_pos q1_46])
                                                                                              · by_cases q1_47 : a1 = (47 : Int32)
                                                                                                · refine lv_tableIn (tgt := 312) (off := 311) hx hb d_PR_perform_1 (by rw [q1_47]; decide) (by rw [q1_47]; decide) (by rw [q1_47]; rfl) (by decide) ?_
                                                                                                  exact J312  _ _ _ w (lv_sub hl [0] rfl) (by rw [← e0, f_PR_perform, if_neg q1_0, if_neg q1_1, if_neg q1_2, if_neg q1_3, if_neg q1_4, if_neg q1_5, if_neg q1_6, if_neg q1_7, if_neg q1_8, if_neg q1_9, if_neg q1_10, if_neg q1_11, if_neg q1_12, if_neg q1_13, if_neg q1_14, if_neg q1_15, if_neg q1_16, if_neg q1_17, if_neg q1_18, if_neg q1_19, if_neg q1_20, if_neg q1_21, if_neg q1_22, if_neg q1_23, if_neg q1_24, if_neg q1_25, if_neg q1_26, if_neg q1_27, if_neg q1_28, if_neg q1_29, if_neg q1_30, if_neg q1_31, if_neg q1_32, if_neg q1_33, if_neg q1_34, if_neg q1_35, if_neg q1_36, if_neg q1_37, if_neg q1_38, if_neg q1_39, if_neg q1_40, if_neg q1_41, if_neg q1_42, if_neg q1_43, if_neg q1_44, if_neg q1_45, if_neg q1_46, if_pos q1_47])
                                                                                                · by_cases q1_48 : a1 = (48 : Int32)
                                                                                                  · refine lv_tableIn (tgt := 343) (off := 342) hx hb d_PR_perform_1 (by rw [q1_48]; decide) (by rw [q1_48]; decide) (by rw [q1_48]; rfl) (by decide) ?_
                                                                                                    exact J343  _ _ _ w (lv_sub hl [0] rfl) (by rw [← e0, f_PR_perform, if_neg q1_0, if_neg q1_1, if_neg q1_2, if_neg q1_3, if_neg q1_4, if_neg q1_5, if_neg q1_6, if_neg q1_7, if_neg q1_8, if_neg q1_9, if_neg q1_10, if_neg q1_11, if_neg q1_12, if_neg q1_13, if_neg q1_14, if_neg q1_15, if_neg q1_16, if_neg q1_17, if_neg q1_18, if_neg q1_19, if_neg q1_20, if_neg q1_21, if_neg q1_22, if_neg q1_23, if_neg q1_24, if_neg q1_25, if_neg q1_26, if_neg q1_27, if_neg q1_28, if_neg q1_29, if_neg q1_30, if_neg q1_31, if_neg q1_32, if_neg q1_33, if_neg q1_34, if_neg q1_35, if_neg q1_36, if_neg q1_37, if_neg q1_38, if_neg q1_39, if_neg q1_40, if_neg q1_41, if_neg q1_42, if_neg q1_43, if_neg q1_44, if_neg q1_45, if_neg q1_46, if_neg q1_47, if_pos q1_48])
                                                                                                  · by_cases q1_49 : a1 = (49 : Int32)
                                                                                                    · refine lv_tableIn (tgt := 320) (off := 319) hx hb d_PR_perform_1 (by rw [q1_49]; decide) (by rw [q1_49]; decide) (by rw [q1_49]; rfl) (by decide) ?_
                                                                                                      exact J320  _ _ _ w (lv_sub hl [] rfl) (by rw [← e0, f_PR_perform, if_neg q1_0, if_neg q1_1, if_neg q1_2, if_neg q1_3, if_neg q1_4, if_neg q1_5, if_neg q1_6, if_neg q1_7, if_neg q1_8, if_neg q1_9, if_neg q1_10, if_neg q1_11, if_neg q1_12, if_neg q1_13, if_neg q1_14, if_neg q1_15, if_neg q1_16, if_neg q1_17, if_neg q1_18, if_neg q1_19, if_neg q1_20, if_neg q1_21, if_neg q1_22, if_neg q1_23, if_neg q1_24, if_neg q1_25, if_neg q1_26, if_neg q1_27, if_neg q1_28, if_neg q1_29, if_neg q1_30, if_neg q1_31, if_neg q1_32, if_neg q1_33, if_neg q1_34, if_neg q1_35, if_neg q1_36, if_neg q1_37, if_neg q1_38, if_neg q1_39, if_neg q1_40, if_neg q1_41, if_neg q1_42, if_neg q1_43, if_neg q1_44, if_neg q1_45, if_neg q1_46, if_neg q1_47, if_neg q1_48, if_pos q1_49])
                                                                                                    · by_cases q1_50 : a1 = (50 : Int32)
                                                                                                      · refine lv_tableIn (tgt := 325) (off := 324) hx hb d_PR_perform_1 (by rw [q1_50]; decide) (by rw [q1_50]; decide) (by rw [q1_50]; rfl) (by decide) ?_
                                                                                                        exact J325  _ _ _ w (lv_sub hl [] rfl) (by rw [← e0, f_PR_perform, if_neg q1_0, if_neg q1_1, if_neg q1_2, if_neg q1_3, if_neg q1_4, if_neg q1_5, if_neg q1_6, if_neg q1_7, if_neg q1_8, if_neg q1_9, if_neg q1_10, if_neg q1_11, if_neg q1_12, if_neg q1_13, if_neg q1_14, if_neg q1_15, if_neg q1_16, if_neg q1_17, if_neg q1_18, if_neg q1_19, if_neg q1_20, if_neg q1_21, if_neg q1_22, if_neg q1_23, if_neg q1_24, if_neg q1_25, if_neg q1_26, if_neg q1_27, if_neg q1_28, if_neg q1_29, if_neg q1_30, if_neg q1_31, if_neg q1_32, if_neg q1_33, if_neg q1_34, if_neg q1_35, if_neg q1_36, if_neg q1_37, if_neg q1_38, if_neg q1_39, if_neg q1_40, if_neg q1_41, if_neg q1_42, if_neg q1_43, if_neg q1_44, if_neg q1_45, if_neg q1_46, if_neg q1_47, if_neg q1_48, if_neg q1_49, if_pos q1_50])
                                                                                                      · by_cases q1_51 : a1 = (51 : Int32)
                                                                                                        · refine lv_tableIn (tgt := 359) (off := 358) hx hb d_PR_perform_1 (by rw [q1_51]; decide) (by rw [q1_51]; decide) (by rw [q1_51]; rfl) (by decide) ?_
                                                                                                          refine lv_iconst (v := -1) hx hb d_PR_perform_359 (by decide) ?_
                                                                                                          exact rt_i hc w d_PR_perform_360 (by rw [← e0, f_PR_perform, if_neg q1_0, if_neg q1_1, if_neg q1_2, if_neg q1_3, if_neg q1_4, if_neg q1_5, if_neg q1_6, if_neg q1_7, if_neg q1_8, if_neg q1_9, if_neg q1_10, if_neg q1_11, if_neg q1_12, if_neg q1_13, if_neg q1_14, if_neg q1_15, if_neg q1_16, if_neg q1_17, if_neg q1_18, if_neg q1_19, if_neg q1_20, if_neg q1_21, if_neg q1_22, if_neg q1_23, if_neg q1_24, if_neg q1_25, if_neg q1_26, if_neg q1_27, if_neg q1_28, if_neg q1_29, if_neg q1_30, if_neg q1_31, if_neg q1_32, if_neg q1_33, if_neg q1_34, if_neg q1_35, if_neg q1_36, if_neg q1_37, if_neg q1_38, if_neg q1_39, if_neg q1_40, if_neg q1_41, if_neg q1_42, if_neg q1_43, if_neg q1_44, if_neg q1_45, if_neg q1_46, if_neg q1_47, if_neg q1_48, if_neg q1_49, if_neg q1_50, if_pos q1_51] <;> rfl)
                                                                                                        · by_cases q1_52 : a1 = (52 : Int32)
                                                                                                          · refine lv_tableIn (tgt := 361) (off := 360) hx hb d_PR_perform_1 (by rw [q1_52]; decide) (by rw [q1_52]; decide) (by rw [q1_52]; rfl) (by decide) ?_
                                                                                                            refine lv_bipush (v := 10) hx hb d_PR_perform_361 (by decide) ?_
                                                                                                            exact rt_i hc w d_PR_perform_363 (by rw [← e0, f_PR_perform, if_neg q1_0, if_neg q1_1, if_neg q1_2, if_neg q1_3, if_neg q1_4, if_neg q1_5, if_neg q1_6, if_neg q1_7, if_neg q1_8, if_neg q1_9, if_neg q1_10, if_neg q1_11, if_neg q1_12, if_neg q1_13, if_neg q1_14, if_neg q1_15, if_neg q1_16, if_neg q1_17, if_neg q1_18, if_neg q1_19, if_neg q1_20, if_neg q1_21, if_neg q1_22, if_neg q1_23, if_neg q1_24, if_neg q1_25, if_neg q1_26, if_neg q1_27, if_neg q1_28, if_neg q1_29, if_neg q1_30, if_neg q1_31, if_neg q1_32, if_neg q1_33, if_neg q1_34, if_neg q1_35, if_neg q1_36, if_neg q1_37, if_neg q1_38, if_neg q1_39, if_neg q1_40, if_neg q1_41, if_neg q1_42, if_neg q1_43, if_neg q1_44, if_neg q1_45, if_neg q1_46, if_neg q1_47, if_neg q1_48, if_neg q1_49, if_neg q1_50, if_neg q1_51, if_pos q1_52] <;> rfl)
                                                                                                          · by_cases q1_53 : a1 = (53 : Int32)
                                                                                                            · refine lv_tableIn (tgt := 320) (off := 319) hx hb d_PR_perform_1 (by rw [q1_53]; decide) (by rw [q1_53]; decide) (by rw [q1_53]; rfl) (by decide) ?_
                                                                                                              exact J320  _ _ _ w (lv_sub hl [] rfl) (by rw [← e0, f_PR_perform, if_neg q1_0, if_neg q1_1, if_neg q1_2, if_neg q1_3, if_neg q1_4, if_neg q1_5, if_neg q1_6, if_neg q1_7, if_neg q1_8, if_neg q1_9, if_neg q1_10, if_neg q1_11, if_neg q1_12, if_neg q1_13, if_neg q1_14, if_neg q1_15, if_neg q1_16, if_neg q1_17, if_neg q1_18, if_neg q1_19, if_neg q1_20, if_neg q1_21, if_neg q1_22, if_neg q1_23, if_neg q1_24, if_neg q1_25, if_neg q1_26, if_neg q1_27, if_neg q1_28, if_neg q1_29, if_neg q1_30, if_neg q1_31, if_neg q1_32, if_neg q1_33, if_neg q1_34, if_neg q1_35, if_neg q1_36, if_neg q1_37, if_neg q1_38, if_neg q1_39, if_neg q1_40, if_neg q1_41, if_neg q1_42, if_neg q1_43, if_neg q1_44, if_neg q1_45, if_neg q1_46, if_neg q1_47, if_neg q1_48, if_neg q1_49, if_neg q1_50, if_neg q1_51, if_neg q1_52, if_pos q1_53])
                                                                                                            · by_cases q1_54 : a1 = (54 : Int32)
                                                                                                              · refine lv_tableIn (tgt := 325) (off := 324) hx hb d_PR_perform_1 (by rw [q1_54]; decide) (by rw [q1_54]; decide) (by rw [q1_54]; rfl) (by decide) ?_
                                                                                                                exact J325  _ _ _ w (lv_sub hl [] rfl) (by rw [← e0, f_PR_perform, if_neg q1_0, if_neg q1_1, if_neg q1_2, if_neg q1_3, if_neg q1_4, if_neg q1_5, if_neg q1_6, if_neg q1_7, if_neg q1_8, if_neg q1_9, if_neg q1_10, if_neg q1_11, if_neg q1_12, if_neg q1_13, if_neg q1_14, if_neg q1_15, if_neg q1_16, if_neg q1_17, if_neg q1_18, if_neg q1_19, if_neg q1_20, if_neg q1_21, if_neg q1_22, if_neg q1_23, if_neg q1_24, if_neg q1_25, if_neg q1_26, if_neg q1_27, if_neg q1_28, if_neg q1_29, if_neg q1_30, if_neg q1_31, if_neg q1_32, if_neg q1_33, if_neg q1_34, if_neg q1_35, if_neg q1_36, if_neg q1_37, if_neg q1_38, if_neg q1_39, if_neg q1_40, if_neg q1_41, if_neg q1_42, if_neg q1_43, if_neg q1_44, if_neg q1_45, if_neg q1_46, if_neg q1_47, if_neg q1_48, if_neg q1_49, if_neg q1_50, if_neg q1_51, if_neg q1_52, if_neg q1_53, if_pos q1_54])
                                                                                                              · by_cases q1_55 : a1 = (55 : Int32)
                                                                                                                · refine lv_tableIn (tgt := 361) (off := 360) hx hb d_PR_perform_1 (by rw [q1_55]; decide) (by rw [q1_55]; decide) (by rw [q1_55]; rfl) (by decide) ?_
                                                                                                                  refine lv_bipush (v := 10) hx hb d_PR_perform_361 (by decide) ?_
                                                                                                                  exact rt_i hc w d_PR_perform_363 (by rw [← e0, f_PR_perform, if_neg q1_0, if_neg q1_1, if_neg q1_2, if_neg q1_3, if_neg q1_4, if_neg q1_5, if_neg q1_6, if_neg q1_7, if_neg q1_8, if_neg q1_9, if_neg q1_10, if_neg q1_11, if_neg q1_12, if_neg q1_13, if_neg q1_14, if_neg q1_15, if_neg q1_16, if_neg q1_17, if_neg q1_18, if_neg q1_19, if_neg q1_20, if_neg q1_21, if_neg q1_22, if_neg q1_23, if_neg q1_24, if_neg q1_25, if_neg q1_26, if_neg q1_27, if_neg q1_28, if_neg q1_29, if_neg q1_30, if_neg q1_31, if_neg q1_32, if_neg q1_33, if_neg q1_34, if_neg q1_35, if_neg q1_36, if_neg q1_37, if_neg q1_38, if_neg q1_39, if_neg q1_40, if_neg q1_41, if_neg q1_42, if_neg q1_43, if_neg q1_44, if_neg q1_45, if_neg q1_46, if_neg q1_47, if_neg q1_48, if_neg q1_49, if_neg q1_50, if_neg q1_51, if_neg q1_52, if_neg q1_53, if_neg q1_54, if_pos q1_55] <;> rfl)
                                                                                                                · by_cases q1_56 : a1 = (56 : Int32)
                                                                                                                  · refine lv_tableIn (tgt := 351) (off := 350) hx hb d_PR_perform_1 (by rw [q1_56]; decide) (by rw [q1_56]; decide) (by rw [q1_56]; rfl) (by decide) ?_
                                                                                                                    exact J351  _ _ _ w (lv_sub hl [0] rfl) (by rw [← e0, f_PR_perform, if_neg q1_0, if_neg q1_1, if_neg q1_2, if_neg q1_3, if_neg q1_4, if_neg q1_5, if_neg q1_6, if_neg q1_7, if_neg q1_8, if_neg q1_9, if_neg q1_10, if_neg q1_11, if_neg q1_12, if_neg q1_13, if_neg q1_14, if_neg q1_15, if_neg q1_16, if_neg q1_17, if_neg q1_18, if_neg q1_19, if_neg q1_20, if_neg q1_21, if_neg q1_22, if_neg q1_23, if_neg q1_24, if_neg q1_25, if_neg q1_26, if_neg q1_27, if_neg q1_28, if_neg q1_29, if_neg q1_30, if_neg q1_31, if_neg q1_32, if_neg q1_33, if_neg q1_34, if_neg q1_35, if_neg q1_36, if_neg q1_37, if_neg q1_38, if_neg q1_39, if_neg q1_40, if_neg q1_41, if_neg q1_42, if_neg q1_43, if_neg q1_44, if_neg q1_45, if_neg q1_46, if_neg q1_47, if_neg q1_48, if_neg q1_49, if_neg q1_50, if_neg q1_51, if_neg q1_52, if_neg q1_53, if_neg q1_54, if_neg q1_55, if_pos q1_56])
                                                                                                                  · by_cases q1_57 : a1 = (57 : Int32)
                                                                                                                    · refine lv_tableIn (tgt := 320) (off := 319) hx hb d_PR_perform_1 (by rw [q1_57]; decide) (by rw [q1_57]; decide) (by rw [q1_57]; rfl) (by decide) ?_
                                                                                                                      exact J320  _ _ _ w (lv_sub hl [] rfl) (by rw [← e0, f_PR_perform, if_neg q1_0, if_neg q1_1, if_neg q1_2, if_neg q1_3, if_neg q1_4, if_neg q1_5, if_neg q1_6, if_neg q1_7, if_neg q1_8, if_neg q1_9, if_neg q1_10, if_neg q1_11, if_neg q1_12, if_neg q1_13, if_neg q1_14, if_neg q1_15, if_neg q1_16, if_neg q1_17, if_neg q1_18, if_neg q1_19, if_neg q1_20, if_neg q1_21, if_neg q1_22, if_neg q1_23, if_neg q1_24, if_neg q1_25, if_neg q1_26, if_neg q1_27, if_neg q1_28, if_neg q1_29, if_neg q1_30, if_neg q1_31, if_neg q1_32, if_neg q1_33, if_neg q1_34, if_neg q1_35, if_neg q1_36, if_neg q1_37, if_neg q1_38, if_neg q1_39, if_neg q1_40, if_neg q1_41, if_neg q1_42, if_neg q1_43, if_neg q1_44, if_neg q1_45, if_neg q1_46, if_neg q1_47, if_neg q1_48, if_neg q1_49, if_neg q1_50, if_neg q1_51, if_neg q1_52, if_neg q1_53, if_neg q1_54, if_neg q1_55, if_neg q1_56, if_pos q1_57])
                                                                                                                    · by_cases q1_58 : a1 = (58 : Int32)
                                                                                                                      · refine lv_tableIn (tgt := 325) (off := 324) hx hb d_PR_perform_1 (by rw [q1_58]; decide) (by rw [q1_58]; decide) (by rw [q1_58]; rfl) (by decide) ?_
                                                                                                                        exact J325  _ _ _ w (lv_sub hl [] rfl) (by rw [← e0, f_PR_perform, if_neg q1_0, if_neg q1_1, if_neg q1_2, if_neg q1_3, if_neg q1_4, if_neg q1_5, if_neg q1_6, if_neg q1_7, if_neg q1_8, if_neg q1_9, if_neg q1_10, if_neg q1_11, if_neg q1_12, if_neg q1_13, if_neg q1_14, if_neg q1_15, if_neg q1_16, if_neg q1_17, if_neg q1_18, if_neg q1_19, if_neg q1_20, if_neg q1_21, if_neg q1_22, if_neg q1_23, if_neg q1_24, if_neg q1_25, if_neg q1_26, if_neg q1_27, if_neg q1_28, if_neg q1_29, if_neg q1_30, if_neg q1_31, if_neg q1_32, if_neg q1_33, if_neg q1_34, if_neg q1_35, if_neg q1_36, if_neg q1_37, if_neg q1_38, if_neg q1_39, if_neg q1_40, if_neg q1_41, if_neg q1_42, if_neg q1_43, if_neg q1_44, if_neg q1_45, if_neg q1_46, if_neg q1_47, if_neg q1_48, if_neg q1_49, if_neg q1_50, if_neg q1_51, if_neg q1_52, if_neg q1_53, if_neg q1_54, if_neg q1_55, if_neg q1_56, if_neg q1_57, if_pos q1_58])
                                                                                                                      · by_cases q1_59 : a1 = (59 : Int32)
                                                                                                                        · refine lv_tableIn (tgt := 361) (off := 360) hx hb d_PR_perform_1 (by rw [q1_59]; decide) (by rw [q1_59]; decide) (by rw [q1_59]; rfl) (by decide) ?_
                                                                                                                          refine lv_bipush (v := 10) hx hb d_PR_perform_361 (by decide) ?_
                                                                                                                          exact rt_i hc w d_PR_perform_363 (by rw [← e0, f_PR_perform, if_neg q1_0, if_neg q1_1, if_neg q1_2, if_neg q1_3, if_neg q1_4, if_neg q1_5, if_neg q1_6, if_neg q1_7, if_neg q1_8, if_neg q1_9, if_neg q1_10, if_neg q1_11, if_neg q1_12, if_neg q1_13, if_neg q1_14, if_neg q1_15, if_neg q1_16, if_neg q1_17, if_neg q1_18, if_neg q1_19, if_neg q1_20, if_neg q1_21, if_neg q1_22, if_neg q1_23, if_neg q1_24, if_neg q1_25, if_neg q1_26, if_neg q1_27, if_neg q1_28, if_neg q1_29, if_neg q1_30, if_neg q1_31, if_neg q1_32, if_neg q1_33, if_neg q1_34, if_neg q1_35, if_neg q1_36, if_neg q1_37, if_neg q1_38, if_neg q1_39, if_neg q1_40, if_neg q1_41, if_neg q1_42, if_neg q1_43, if_neg q1_44, if_neg q1_45, if_neg q1_46, if_neg q1_47, if_neg q1_48, if_neg q1_49, if_neg q1_50, if_neg q1_51, if_neg q1_52, if_neg q1_53, if_neg q1_54, if_neg q1_55, if_neg q1_56, if_neg q1_57, if_neg q1_58, if_pos q1_59] <;> rfl)
                                                                                                                        · by_cases q1_60 : a1 = (60 : Int32)
                                                                                                                          · refine lv_tableIn (tgt := 361) (off := 360) hx hb d_PR_perform_1 (by rw [q1_60]; decide) (by rw [q1_60]; decide) (by rw [q1_60]; rfl) (by decide) ?_
                                                                                                                            refine lv_bipush (v := 10) hx hb d_PR_perform_361 (by decide) ?_
                                                                                                                            exact rt_i hc w d_PR_perform_363 (by rw [← e0, f_PR_perform, if_neg q1_0, if_neg q1_1, if_neg q1_2, if_neg q1_3, if_neg q1_4, if_neg q1_5, if_neg q1_6, if_neg q1_7, if_neg q1_8, if_neg q1_9, if_neg q1_10, if_neg q1_11, if_neg q1_12, if_neg q1_13, if_neg q1_14, if_neg q1_15, if_neg q1_16, if_neg q1_17, if_neg q1_18, if_neg q1_19, if_neg q1_20, if_neg q1_21, if_neg q1_22, if_neg q1_23, if_neg q1_24, if_neg q1_25, if_neg q1_26, if_neg q1_27, if_neg q1_28, if_neg q1_29, if_neg q1_30, if_neg q1_31, if_neg q1_32, if_neg q1_33, if_neg q1_34, if_neg q1_35, if_neg q1_36, if_neg q1_37, if_neg q1_38, if_neg q1_39, if_neg q1_40, if_neg q1_41, if_neg q1_42, if_neg q1_43, if_neg q1_44, if_neg q1_45, if_neg q1_46, if_neg q1_47, if_neg q1_48, if_neg q1_49, if_neg q1_50, if_neg q1_51, if_neg q1_52, if_neg q1_53, if_neg q1_54, if_neg q1_55, if_neg q1_56, if_neg q1_57, if_neg q1_58, if_neg q1_59, if_pos q1_60] <;> rfl)
                                                                                                                          · by_cases q1_61 : a1 = (61 : Int32)
                                                                                                                            · refine lv_tableIn (tgt := 320) (off := 319) hx hb d_PR_perform_1 (by rw [q1_61]; decide) (by rw [q1_61]; decide) (by rw [q1_61]; rfl) (by decide) ?_
                                                                                                                              exact J320  _ _ _ w (lv_sub hl [] rfl) (by rw [← e0, f_PR_perform, if_neg q1_0, if_neg q1_1, if_neg q1_2, if_neg q1_3, if_neg q1_4, if_neg q1_5, if_neg q1_6, if_neg q1_7, if_neg q1_8, if_neg q1_9, if_neg q1_10, if_neg q1_11, if_neg q1_12, if_neg q1_13, if_neg q1_14, if_neg q1_15, if_neg q1_16, if_neg q1_17, if_neg q1_18, if_neg q1_19, if_neg q1_20, if_neg q1_21, if_neg q1_22, if_neg q1_23, if_neg q1_24, if_neg q1_25, if_neg q1_26, if_neg q1_27, if_neg q1_28, if_neg q1_29, if_neg q1_30, if_neg q1_31, if_neg q1_32, if_neg q1_33, if_neg q1_34, if_neg q1_35, if_neg q1_36, if_neg q1_37, if_neg q1_38, if_neg q1_39, if_neg q1_40, if_neg q1_41, if_neg q1_42, if_neg q1_43, if_neg q1_44, if_neg q1_45, if_neg q1_46, if_neg q1_47, if_neg q1_48, if_neg q1_49, if_neg q1_50, if_neg q1_51, if_neg q1_52, if_neg q1_53, if_neg q1_54, if_neg q1_55, if_neg q1_56, if_neg q1_57, if_neg q1_58, if_neg q1_59, if_neg q1_60, if_pos q1_61])
                                                                                                                            · by_cases q1_62 : a1 = (62 : Int32)
                                                                                                                              · refine lv_tableIn (tgt := 325) (off := 324) hx hb d_PR_perform_1 (by rw [q1_62]; decide) (by rw [q1_62]; decide) (by rw [q1_62]; rfl) (by decide) ?_
                                                                                                                                exact J325  _ _ _ w (lv_sub hl [] rfl) (by rw [← e0, f_PR_perform, if_neg q1_0, if_neg q1_1, if_neg q1_2, if_neg q1_3, if_neg q1_4, if_neg q1_5, if_neg q1_6, if_neg q1_7, if_neg q1_8, if_neg q1_9, if_neg q1_10, if_neg q1_11, if_neg q1_12, if_neg q1_13, if_neg q1_14, if_neg q1_15, if_neg q1_16, if_neg q1_17, if_neg q1_18, if_neg q1_19, if_neg q1_20, if_neg q1_21, if_neg q1_22, if_neg q1_23, if_neg q1_24, if_neg q1_25, if_neg q1_26, if_neg q1_27, if_neg q1_28, if_neg q1_29, if_neg q1_30, if_neg q1_31, if_neg q1_32, if_neg q1_33, if_neg q1_34, if_neg q1_35, if_neg q1_36, if_neg q1_37, if_neg q1_38, if_neg q1_39, if_neg q1_40, if_neg q1_41, if_neg q1_42, if_neg q1_43, if_neg q1_44, if_neg q1_45, if_neg q1_46, if_neg q1_47, if_neg q1_48, if_neg q1_49, if_neg q1_50, if_neg q1_51, if_neg q1_52, if_neg q1_53, if_neg q1_54, if_neg q1_55, if_neg q1_56, if_neg q1_57, if_neg q1_58, if_neg q1_59, if_neg q1_60, if_neg q1_61, if_pos q1_62])
                                                                                                                              · refine lv_tableOut (tgt := 361) hx hb d_PR_perform_1 (by have k0 := ne_k q1_0 (n := 0) (by decide); have k1 := ne_k q1_1 (n := 1) (by decide); have k2 := ne_k q1_2 (n := 2) (by decide); have k3 := ne_k q1_3 (n := 3) (by decide); have k4 := ne_k q1_4 (n := 4) (by decide); have k5 := ne_k q1_5 (n := 5) (by decide); have k6 := ne_k q1_6 (n := 6) (by decide); have k7 := ne_k q1_7 (n := 7) (by decide); have k8 := ne_k q1_8 (n := 8) (by decide); have k9 := ne_k q1_9 (n := 9) (by decide); have k10 := ne_k q1_10 (n := 10) (by decide); have k11 := ne_k q1_11 (n := 11) (by decide); have k12 := ne_k q1_12 (n := 12) (by decide); have k13 := ne_k q1_13 (n := 13) (by decide); have k14 := ne_k q1_14 (n := 14) (by decide); have k15 := ne_k q1_15 (n := 15) (by decide); have k16 := ne_k q1_16 (n := 16) (by decide); have k17 := ne_k q1_17 (n := 17) (by decide); have k18 := ne_k q1_18 (n := 18) (by decide); have k19 := ne_k q1_19 (n := 19) (by decide); have k20 := ne_k q1_20 (n := 20) (by decide); have k21 := ne_k q1_21 (n := 21) (by decide); have k22 := ne_k q1_22 (n := 22) (by decide); have k23 := ne_k q1_23 (n := 23) (by decide); have k24 := ne_k q1_24 (n := 24) (by decide); have k25 := ne_k q1_25 (n := 25) (by decide); have k26 := ne_k q1_26 (n := 26) (by decide); have k27 := ne_k q1_27 (n := 27) (by decide); have k28 := ne_k q1_28 (n := 28) (by decide); have k29 := ne_k q1_29 (n := 29) (by decide); have k30 := ne_k q1_30 (n := 30) (by decide); have k31 := ne_k q1_31 (n := 31) (by decide); have k32 := ne_k q1_32 (n := 32) (by decide); have k33 := ne_k q1_33 (n := 33) (by decide); have k34 := ne_k q1_34 (n := 34) (by decide); have k35 := ne_k q1_35 (n := 35) (by decide); have k36 := ne_k q1_36 (n := 36) (by decide); have k37 := ne_k q1_37 (n := 37) (by decide); have k38 := ne_k q1_38 (n := 38) (by decide); have k39 := ne_k q1_39 (n := 39) (by decide); have k40 := ne_k q1_40 (n := 40) (by decide); have k41 := ne_k q1_41 (n := 41) (by decide); have k42 := ne_k q1_42 (n := 42) (by decide); have k43 := ne_k q1_43 (n := 43) (by decide); have k44 := ne_k q1_44 (n := 44) (by decide); have k45 := ne_k q1_45 (n := 45) (by decide); have k46 := ne_k q1_46 (n := 46) (by decide); have k47 := ne_k q1_47 (n := 47) (by decide); have k48 := ne_k q1_48 (n := 48) (by decide); have k49 := ne_k q1_49 (n := 49) (by decide); have k50 := ne_k q1_50 (n := 50) (by decide); have k51 := ne_k q1_51 (n := 51) (by decide); have k52 := ne_k q1_52 (n := 52) (by decide); have k53 := ne_k q1_53 (n := 53) (by decide); have k54 := ne_k q1_54 (n := 54) (by decide); have k55 := ne_k q1_55 (n := 55) (by decide); have k56 := ne_k q1_56 (n := 56) (by decide); have k57 := ne_k q1_57 (n := 57) (by decide); have k58 := ne_k q1_58 (n := 58) (by decide); have k59 := ne_k q1_59 (n := 59) (by decide); have k60 := ne_k q1_60 (n := 60) (by decide); have k61 := ne_k q1_61 (n := 61) (by decide); have k62 := ne_k q1_62 (n := 62) (by decide); omega) (by decide) ?_
                                                                                                                                refine lv_bipush (v := 10) hx hb d_PR_perform_361 (by decide) ?_
                                                                                                                                exact rt_i hc w d_PR_perform_363 (by rw [← e0, f_PR_perform, if_neg q1_0, if_neg q1_1, if_neg q1_2, if_neg q1_3, if_neg q1_4, if_neg q1_5, if_neg q1_6, if_neg q1_7, if_neg q1_8, if_neg q1_9, if_neg q1_10, if_neg q1_11, if_neg q1_12, if_neg q1_13, if_neg q1_14, if_neg q1_15, if_neg q1_16, if_neg q1_17, if_neg q1_18, if_neg q1_19, if_neg q1_20, if_neg q1_21, if_neg q1_22, if_neg q1_23, if_neg q1_24, if_neg q1_25, if_neg q1_26, if_neg q1_27, if_neg q1_28, if_neg q1_29, if_neg q1_30, if_neg q1_31, if_neg q1_32, if_neg q1_33, if_neg q1_34, if_neg q1_35, if_neg q1_36, if_neg q1_37, if_neg q1_38, if_neg q1_39, if_neg q1_40, if_neg q1_41, if_neg q1_42, if_neg q1_43, if_neg q1_44, if_neg q1_45, if_neg q1_46, if_neg q1_47, if_neg q1_48, if_neg q1_49, if_neg q1_50, if_neg q1_51, if_neg q1_52, if_neg q1_53, if_neg q1_54, if_neg q1_55, if_neg q1_56, if_neg q1_57, if_neg q1_58, if_neg q1_59, if_neg q1_60, if_neg q1_61, if_neg q1_62] <;> rfl)
-- PR_stepWasFault
def f_PR_stepWasFault_c8 (z80 : XS)  (v76_1 : Int32) : XS × Bool := if v76_1 = (-1 : Int32) then ((z80, false)) else ((z80, true))
def f_PR_stepWasFault_76 (σ76 : XS) (v76_1 : Int32) : XS × Bool := f_PR_stepWasFault_c8 (f_SR_moveRandom σ76)  v76_1
def f_PR_stepWasFault_c7 (z65 : XS)  (v56_1 : Int32) : XS × Bool := f_PR_stepWasFault_76 z65 v56_1
def f_PR_stepWasFault_c6 (z73 : XS)  (v56_1 : Int32) : XS × Bool := f_PR_stepWasFault_76 z73 v56_1
def f_PR_stepWasFault_56 (σ56 : XS) (v56_1 : Int32) : XS × Bool := if v56_1 = (-1 : Int32) then (f_PR_stepWasFault_c7 (f_CO_finish σ56)  v56_1) else (f_PR_stepWasFault_c6 (f_PR_enter σ56 v56_1)  v56_1)
def f_PR_stepWasFault_c5 (z29 : XS)   : XS × Bool := (z29, true)
def f_PR_stepWasFault_c4 (z52 : XS × Int32)   : XS × Bool := f_PR_stepWasFault_56 z52.1 z52.2
def f_PR_stepWasFault_c3 (z35 : XS × Int32)   : XS × Bool := if z35.2 = (-1 : Int32) then (f_PR_stepWasFault_c4 (f_PR_perform z35.1 (f_CO_op z35.1))  ) else (f_PR_stepWasFault_56 z35.1 z35.2)
def f_PR_stepWasFault_c2 (z14 : XS)   : XS × Bool := if (zb (f_SR_interruptIsDue z14)) = 0 then (f_PR_stepWasFault_c3 (f_PR_fetch z14)  ) else (f_PR_stepWasFault_c5 (f_PR_enter z14 (0 : Int32))  )
def f_PR_stepWasFault_c1 (σ7 : XS)   : XS × Bool := f_PR_stepWasFault_c2 (f_SR_tick σ7)  
def f_PR_stepWasFault (σ : XS) : XS × Bool := f_PR_stepWasFault_c1 (xs_steps σ ((x_steps σ) + (1 : Int32)))  
theorem d_PR_stepWasFault_0 : decode b_PR_stepWasFault 0 = .ok (.aload_n 0, 1) := by decide +kernel
theorem d_PR_stepWasFault_1 : decode b_PR_stepWasFault 1 = .ok (.dup, 1) := by decide +kernel
theorem d_PR_stepWasFault_2 : decode b_PR_stepWasFault 2 = .ok (.getfield 65, 3) := by decide +kernel
theorem d_PR_stepWasFault_5 : decode b_PR_stepWasFault 5 = .ok (.iconst 1, 1) := by decide +kernel
theorem d_PR_stepWasFault_6 : decode b_PR_stepWasFault 6 = .ok (.iadd, 1) := by decide +kernel
theorem d_PR_stepWasFault_7 : decode b_PR_stepWasFault 7 = .ok (.putfield 65, 3) := by decide +kernel
theorem d_PR_stepWasFault_10 : decode b_PR_stepWasFault 10 = .ok (.aload_n 0, 1) := by decide +kernel
theorem d_PR_stepWasFault_11 : decode b_PR_stepWasFault 11 = .ok (.getfield 23, 3) := by decide +kernel
theorem d_PR_stepWasFault_14 : decode b_PR_stepWasFault 14 = .ok (.invokevirtual 69, 3) := by decide +kernel
theorem d_PR_stepWasFault_17 : decode b_PR_stepWasFault 17 = .ok (.aload_n 0, 1) := by decide +kernel
theorem d_PR_stepWasFault_18 : decode b_PR_stepWasFault 18 = .ok (.getfield 23, 3) := by decide +kernel
theorem d_PR_stepWasFault_21 : decode b_PR_stepWasFault 21 = .ok (.invokevirtual 74, 3) := by decide +kernel
theorem d_PR_stepWasFault_24 : decode b_PR_stepWasFault 24 = .ok (.ifCond .eq 10, 3) := by decide +kernel
theorem d_PR_stepWasFault_27 : decode b_PR_stepWasFault 27 = .ok (.aload_n 0, 1) := by decide +kernel
theorem d_PR_stepWasFault_28 : decode b_PR_stepWasFault 28 = .ok (.iconst 0, 1) := by decide +kernel
theorem d_PR_stepWasFault_29 : decode b_PR_stepWasFault 29 = .ok (.invokevirtual 78, 3) := by decide +kernel
theorem d_PR_stepWasFault_32 : decode b_PR_stepWasFault 32 = .ok (.iconst 1, 1) := by decide +kernel
theorem d_PR_stepWasFault_33 : decode b_PR_stepWasFault 33 = .ok (.ireturn, 1) := by decide +kernel
theorem d_PR_stepWasFault_34 : decode b_PR_stepWasFault 34 = .ok (.aload_n 0, 1) := by decide +kernel
theorem d_PR_stepWasFault_35 : decode b_PR_stepWasFault 35 = .ok (.invokevirtual 82, 3) := by decide +kernel
theorem d_PR_stepWasFault_38 : decode b_PR_stepWasFault 38 = .ok (.istore_n 1, 1) := by decide +kernel
theorem d_PR_stepWasFault_39 : decode b_PR_stepWasFault 39 = .ok (.iload_n 1, 1) := by decide +kernel
theorem d_PR_stepWasFault_40 : decode b_PR_stepWasFault 40 = .ok (.iconst (-1), 1) := by decide +kernel
theorem d_PR_stepWasFault_41 : decode b_PR_stepWasFault 41 = .ok (.if_icmp .ne 15, 3) := by decide +kernel
theorem d_PR_stepWasFault_44 : decode b_PR_stepWasFault 44 = .ok (.aload_n 0, 1) := by decide +kernel
theorem d_PR_stepWasFault_45 : decode b_PR_stepWasFault 45 = .ok (.aload_n 0, 1) := by decide +kernel
theorem d_PR_stepWasFault_46 : decode b_PR_stepWasFault 46 = .ok (.getfield 15, 3) := by decide +kernel
theorem d_PR_stepWasFault_49 : decode b_PR_stepWasFault 49 = .ok (.invokevirtual 86, 3) := by decide +kernel
theorem d_PR_stepWasFault_52 : decode b_PR_stepWasFault 52 = .ok (.invokevirtual 91, 3) := by decide +kernel
theorem d_PR_stepWasFault_55 : decode b_PR_stepWasFault 55 = .ok (.istore_n 1, 1) := by decide +kernel
theorem d_PR_stepWasFault_56 : decode b_PR_stepWasFault 56 = .ok (.iload_n 1, 1) := by decide +kernel
theorem d_PR_stepWasFault_57 : decode b_PR_stepWasFault 57 = .ok (.iconst (-1), 1) := by decide +kernel
theorem d_PR_stepWasFault_58 : decode b_PR_stepWasFault 58 = .ok (.if_icmp .ne 13, 3) := by decide +kernel
theorem d_PR_stepWasFault_61 : decode b_PR_stepWasFault 61 = .ok (.aload_n 0, 1) := by decide +kernel
theorem d_PR_stepWasFault_62 : decode b_PR_stepWasFault 62 = .ok (.getfield 15, 3) := by decide +kernel
theorem d_PR_stepWasFault_65 : decode b_PR_stepWasFault 65 = .ok (.invokevirtual 95, 3) := by decide +kernel
theorem d_PR_stepWasFault_68 : decode b_PR_stepWasFault 68 = .ok (.goto 8, 3) := by decide +kernel
theorem d_PR_stepWasFault_71 : decode b_PR_stepWasFault 71 = .ok (.aload_n 0, 1) := by decide +kernel
theorem d_PR_stepWasFault_72 : decode b_PR_stepWasFault 72 = .ok (.iload_n 1, 1) := by decide +kernel
theorem d_PR_stepWasFault_73 : decode b_PR_stepWasFault 73 = .ok (.invokevirtual 78, 3) := by decide +kernel
theorem d_PR_stepWasFault_76 : decode b_PR_stepWasFault 76 = .ok (.aload_n 0, 1) := by decide +kernel
theorem d_PR_stepWasFault_77 : decode b_PR_stepWasFault 77 = .ok (.getfield 23, 3) := by decide +kernel
theorem d_PR_stepWasFault_80 : decode b_PR_stepWasFault 80 = .ok (.invokevirtual 98, 3) := by decide +kernel
theorem d_PR_stepWasFault_83 : decode b_PR_stepWasFault 83 = .ok (.iload_n 1, 1) := by decide +kernel
theorem d_PR_stepWasFault_84 : decode b_PR_stepWasFault 84 = .ok (.iconst (-1), 1) := by decide +kernel
theorem d_PR_stepWasFault_85 : decode b_PR_stepWasFault 85 = .ok (.if_icmp .eq 7, 3) := by decide +kernel
theorem d_PR_stepWasFault_88 : decode b_PR_stepWasFault 88 = .ok (.iconst 1, 1) := by decide +kernel
theorem d_PR_stepWasFault_89 : decode b_PR_stepWasFault 89 = .ok (.goto 4, 3) := by decide +kernel
theorem d_PR_stepWasFault_92 : decode b_PR_stepWasFault 92 = .ok (.iconst 0, 1) := by decide +kernel
theorem d_PR_stepWasFault_93 : decode b_PR_stepWasFault 93 = .ok (.ireturn, 1) := by decide +kernel
set_option maxHeartbeats 4000000 in
set_option maxRecDepth 100000 in
theorem c_PR_stepWasFault (l : Launch) (E : Ev) (ad : Nat → Nat) (σ : XS) : rC xCl l E (xW E ad) y_PR_stepWasFault b_PR_stepWasFault 2 (Option.some Jvm.ClassFile.FieldType.boolean) (rmo 6 143) [.ref (ad 6)] σ (zZ (f_PR_stepWasFault σ)) := by
  refine rC.of (by decide) (Nat.le_of_ble_eq_true rfl) ?_
  intro p e s m below meth c A ls hc w hl
  generalize e0 : zZ (f_PR_stepWasFault σ) = Z
  have hc : Cx xCl E A p s m ([.ref (ad 6)] : List Value).toArray meth c b_PR_stepWasFault 2 (Option.some Jvm.ClassFile.FieldType.boolean) "PageMachine$Processor" := hc
  have hx := hc.1
  have hb := hc.2.1
  have ho := hc.2.2.2.2.2.1
  have hT := hc.2.2.2.2.2.2.1
  have hl : lv_has ls 2 [(0, .ref (ad 6))] := hl
  have J76 : ∀ (σ76 : XS) (v76_1 : Int32) (H : Heap) (locs : List Loc) (ls : Array Slot), Wd xCl E A s.heap H locs (xW E ad σ76) → lv_has ls 2 [(1, .int v76_1), (0, .ref (ad 6))] → zZ (f_PR_stepWasFault_76 σ76 v76_1) = Z → W p l e (rmo 6 143) s m ([.ref (ad 6)] : List Value).toArray below meth c H locs 0 0 (MQ below (rQ xCl (xW E ad) E A Z) ([.ref (ad 6)] : List Value).toArray s 0 0 A) (F0 m 76 ls []) := by
    intro σ76 v76_1 H locs ls w hl e76
    refine lv_aload_n hx hb d_PR_stepWasFault_76 rfl (lv_at hl 1 rfl) ?_
    refine g_PR_system hc w mw_209 d_PR_stepWasFault_77 ?_
    refine cVV (rest := []) hc w (c_SR_moveRandom l E ad σ76) kv_SR_moveRandom mw_833 2 rfl rfl ⟨Nat.le_of_ble_eq_true rfl, Nat.le_of_ble_eq_true rfl⟩ hl.1 rfl (Nat.le_of_ble_eq_true rfl) ⟨Nat.zero_le _, Nat.zero_le _⟩ d_PR_stepWasFault_80 (fun z80 H locs hs80 w => ?_)
    have e_c8 : zZ (f_PR_stepWasFault_c8 z80  v76_1) = Z := by rw [← e76, f_PR_stepWasFault_76, hs80]
    refine lv_iload_n hx hb d_PR_stepWasFault_83 rfl (lv_at hl 0 rfl) ?_
    refine lv_iconst (v := -1) hx hb d_PR_stepWasFault_84 (by decide) ?_
    refine lv_icmp_eq (tgt := 92) hx hb d_PR_stepWasFault_85 (by decide) (fun q85 => ?_) (fun q85 => ?_)
    · refine lv_iconst (v := 0) hx hb d_PR_stepWasFault_92 (by decide) ?_
      exact rt_z (v := false) hc w d_PR_stepWasFault_93 rfl (by rw [← e_c8, f_PR_stepWasFault_c8, if_pos q85] <;> rfl)
    · refine lv_iconst (v := 1) hx hb d_PR_stepWasFault_88 (by decide) ?_
      refine lv_goto (tgt := 93) hx hb d_PR_stepWasFault_89 (by decide) ?_
      exact rt_z (v := true) hc w d_PR_stepWasFault_93 rfl (by rw [← e_c8, f_PR_stepWasFault_c8, if_neg q85] <;> rfl)
  have J56 : ∀ (σ56 : XS) (v56_1 : Int32) (H : Heap) (locs : List Loc) (ls : Array Slot), Wd xCl E A s.heap H locs (xW E ad σ56) → lv_has ls 2 [(1, .int v56_1), (0, .ref (ad 6))] → zZ (f_PR_stepWasFault_56 σ56 v56_1) = Z → W p l e (rmo 6 143) s m ([.ref (ad 6)] : List Value).toArray below meth c H locs 0 0 (MQ below (rQ xCl (xW E ad) E A Z) ([.ref (ad 6)] : List Value).toArray s 0 0 A) (F0 m 56 ls []) := by
    intro σ56 v56_1 H locs ls w hl e56
    refine lv_iload_n hx hb d_PR_stepWasFault_56 rfl (lv_at hl 0 rfl) ?_
    refine lv_iconst (v := -1) hx hb d_PR_stepWasFault_57 (by decide) ?_
    refine lv_icmp_ne (tgt := 71) hx hb d_PR_stepWasFault_58 (by decide) (fun q58 => ?_) (fun q58 => ?_)
    · refine lv_aload_n hx hb d_PR_stepWasFault_71 rfl (lv_at hl 1 rfl) ?_
      refine lv_iload_n hx hb d_PR_stepWasFault_72 rfl (lv_at hl 0 rfl) ?_
      refine cVV (rest := []) hc w (c_PR_enter l E ad σ56 v56_1) kv_PR_enter mw_458 6 rfl rfl ⟨Nat.le_of_ble_eq_true rfl, Nat.le_of_ble_eq_true rfl⟩ hl.1 rfl (Nat.le_of_ble_eq_true rfl) ⟨Nat.zero_le _, Nat.zero_le _⟩ d_PR_stepWasFault_73 (fun z73 H locs hs73 w => ?_)
      have e_c6 : zZ (f_PR_stepWasFault_c6 z73  v56_1) = Z := by rw [← e56, f_PR_stepWasFault_56, if_neg q58, hs73]
      exact J76 z73 v56_1 _ _ _ w (lv_sub hl [0, 1] rfl) (by rw [← e_c6, f_PR_stepWasFault_c6])
    · refine lv_aload_n hx hb d_PR_stepWasFault_61 rfl (lv_at hl 1 rfl) ?_
      refine g_PR_core hc w mw_207 d_PR_stepWasFault_62 ?_
      refine cVV (rest := []) hc w (c_CO_finish l E ad σ56) kv_CO_finish mw_829 5 rfl rfl ⟨Nat.le_of_ble_eq_true rfl, Nat.le_of_ble_eq_true rfl⟩ hl.1 rfl (Nat.le_of_ble_eq_true rfl) ⟨Nat.zero_le _, Nat.zero_le _⟩ d_PR_stepWasFault_65 (fun z65 H locs hs65 w => ?_)
      have e_c7 : zZ (f_PR_stepWasFault_c7 z65  v56_1) = Z := by rw [← e56, f_PR_stepWasFault_56, if_pos q58, hs65]
      refine lv_goto (tgt := 76) hx hb d_PR_stepWasFault_68 (by decide) ?_
      exact J76 z65 v56_1 _ _ _ w (lv_sub hl [0, 1] rfl) (by rw [← e_c7, f_PR_stepWasFault_c7])
  refine lv_aload_n hx hb d_PR_stepWasFault_0 rfl (lv_at hl 0 rfl) ?_
  refine lv_dup hx hb d_PR_stepWasFault_1 rfl ?_
  refine g_PR_stepsDone hc w mw_216 d_PR_stepWasFault_2 ?_
  refine lv_iconst (v := 1) hx hb d_PR_stepWasFault_5 (by decide) ?_
  refine lv_iadd hx hb d_PR_stepWasFault_6 ?_
  refine p_PR_stepsDone hc w mw_216 d_PR_stepWasFault_7 (fun σ7 H locs hs7 w => ?_)
  have e_c1 : zZ (f_PR_stepWasFault_c1 σ7  ) = Z := by rw [← e0, f_PR_stepWasFault, hs7]
  refine lv_aload_n hx hb d_PR_stepWasFault_10 rfl (lv_at hl 0 rfl) ?_
  refine g_PR_system hc w mw_209 d_PR_stepWasFault_11 ?_
  refine cVV (rest := []) hc w (c_SR_tick l E ad σ7) kv_SR_tick mw_448 2 rfl rfl ⟨Nat.le_of_ble_eq_true rfl, Nat.le_of_ble_eq_true rfl⟩ hl.1 rfl (Nat.le_of_ble_eq_true rfl) ⟨Nat.zero_le _, Nat.zero_le _⟩ d_PR_stepWasFault_14 (fun z14 H locs hs14 w => ?_)
  have e_c2 : zZ (f_PR_stepWasFault_c2 z14  ) = Z := by rw [← e_c1, f_PR_stepWasFault_c1, hs14]
  refine lv_aload_n hx hb d_PR_stepWasFault_17 rfl (lv_at hl 0 rfl) ?_
  refine g_PR_system hc w mw_209 d_PR_stepWasFault_18 ?_
  refine rVZ (rest := []) hc w (c_SR_interruptIsDue l E ad z14) kv_SR_interruptIsDue mw_452 2 rfl rfl ⟨Nat.le_of_ble_eq_true rfl, Nat.le_of_ble_eq_true rfl⟩ hl.1 rfl (Nat.le_of_ble_eq_true rfl) ⟨Nat.zero_le _, Nat.zero_le _⟩ d_PR_stepWasFault_21 (fun H locs w => ?_)
  refine lv_if_eq (tgt := 34) hx hb d_PR_stepWasFault_24 (by decide) (fun q24 => ?_) (fun q24 => ?_)
  · refine lv_aload_n hx hb d_PR_stepWasFault_34 rfl (lv_at hl 0 rfl) ?_
    refine cVI (rest := []) hc w (c_PR_fetch l E ad z14) kv_PR_fetch mw_489 6 rfl rfl ⟨Nat.le_of_ble_eq_true rfl, Nat.le_of_ble_eq_true rfl⟩ hl.1 rfl (Nat.le_of_ble_eq_true rfl) ⟨Nat.zero_le _, Nat.zero_le _⟩ d_PR_stepWasFault_35 (fun z35 H locs hs35 w => ?_)
    have e_c3 : zZ (f_PR_stepWasFault_c3 z35  ) = Z := by rw [← e_c2, f_PR_stepWasFault_c2, if_pos q24, hs35]
    refine lv_istore_n (lv' := [(1, .int z35.2), (0, .ref (ad 6))]) hx hb d_PR_stepWasFault_38 rfl hl (by decide) rfl (fun ls hl => ?_)
    refine lv_iload_n hx hb d_PR_stepWasFault_39 rfl (lv_at hl 0 rfl) ?_
    refine lv_iconst (v := -1) hx hb d_PR_stepWasFault_40 (by decide) ?_
    refine lv_icmp_ne (tgt := 56) hx hb d_PR_stepWasFault_41 (by decide) (fun q41 => ?_) (fun q41 => ?_)
    · exact J56 z35.1 z35.2 _ _ _ w (lv_sub hl [0, 1] rfl) (by rw [← e_c3, f_PR_stepWasFault_c3, if_neg q41])
    · refine lv_aload_n hx hb d_PR_stepWasFault_44 rfl (lv_at hl 1 rfl) ?_
      refine lv_aload_n hx hb d_PR_stepWasFault_45 rfl (lv_at hl 1 rfl) ?_
      refine g_PR_core hc w mw_207 d_PR_stepWasFault_46 ?_
      refine rVI (rest := [.ref (ad 6)]) hc w (c_CO_op l E ad z35.1) kv_CO_op mw_532 5 rfl rfl ⟨Nat.le_of_ble_eq_true rfl, Nat.le_of_ble_eq_true rfl⟩ hl.1 rfl (Nat.le_of_ble_eq_true rfl) ⟨Nat.zero_le _, Nat.zero_le _⟩ d_PR_stepWasFault_49 (fun H locs w => ?_)
      refine cVI (rest := []) hc w (c_PR_perform l E ad z35.1 (f_CO_op z35.1)) kv_PR_perform mw_536 6 rfl rfl ⟨Nat.le_of_ble_eq_true rfl, Nat.le_of_ble_eq_true rfl⟩ hl.1 rfl (Nat.le_of_ble_eq_true rfl) ⟨Nat.zero_le _, Nat.zero_le _⟩ d_PR_stepWasFault_52 (fun z52 H locs hs52 w => ?_)
      have e_c4 : zZ (f_PR_stepWasFault_c4 z52  ) = Z := by rw [← e_c3, f_PR_stepWasFault_c3, if_pos q41, hs52]
      refine lv_istore_n (lv' := [(1, .int z52.2), (0, .ref (ad 6))]) hx hb d_PR_stepWasFault_55 rfl hl (by decide) rfl (fun ls hl => ?_)
      exact J56 z52.1 z52.2 _ _ _ w (lv_sub hl [0, 1] rfl) (by rw [← e_c4, f_PR_stepWasFault_c4])
  · refine lv_aload_n hx hb d_PR_stepWasFault_27 rfl (lv_at hl 0 rfl) ?_
    refine lv_iconst (v := 0) hx hb d_PR_stepWasFault_28 (by decide) ?_
    refine cVV (rest := []) hc w (c_PR_enter l E ad z14 (0 : Int32)) kv_PR_enter mw_458 6 rfl rfl ⟨Nat.le_of_ble_eq_true rfl, Nat.le_of_ble_eq_true rfl⟩ hl.1 rfl (Nat.le_of_ble_eq_true rfl) ⟨Nat.zero_le _, Nat.zero_le _⟩ d_PR_stepWasFault_29 (fun z29 H locs hs29 w => ?_)
    have e_c5 : zZ (f_PR_stepWasFault_c5 z29  ) = Z := by rw [← e_c2, f_PR_stepWasFault_c2, if_neg q24, hs29]
    refine lv_iconst (v := 1) hx hb d_PR_stepWasFault_32 (by decide) ?_
    exact rt_z (v := true) hc w d_PR_stepWasFault_33 rfl (by rw [← e_c5, f_PR_stepWasFault_c5] <;> rfl)
