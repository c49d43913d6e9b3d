-- MO_setEntry
def f_MO_setEntry_c5 (σ99 : MS) (a1 : Int32)  : MS := σ99
def f_MO_setEntry_c4 (σ80 : MS) (a1 : Int32)  : MS := f_MO_setEntry_c5 (ms_halves σ80 (upd (m_halves σ80) (Int32.toNatClampNeg (((2 : Int32) * a1) + (1 : Int32))) ((m_sys σ80 (Int32.toNatClampNeg (3 : Int32))) &&& (-2 : Int32)))) a1 
def f_MO_setEntry_c3 (σ63 : MS) (a1 : Int32)  : MS := f_MO_setEntry_c4 (ms_halves σ63 (upd (m_halves σ63) (Int32.toNatClampNeg ((2 : Int32) * a1)) ((m_sys σ63 (Int32.toNatClampNeg (2 : Int32))) &&& (-2 : Int32)))) a1 
def f_MO_setEntry_63 (σ63 : MS) (a1 : Int32) (w63_2 : Bool) : MS := f_MO_setEntry_c3 (ms_all σ63 (updB (m_all σ63) (Int32.toNatClampNeg a1) w63_2)) a1 
def f_MO_setEntry_c2 (σ33 : MS) (a1 : Int32)  : MS := if (((m_sys σ33 (Int32.toNatClampNeg (2 : Int32))) &&& (m_sys σ33 (Int32.toNatClampNeg (3 : Int32)))) &&& (1 : Int32)) = (1 : Int32) then (f_MO_setEntry_63 σ33 a1 true) else (f_MO_setEntry_63 σ33 a1 false)
def f_MO_setEntry_c1 (σ16 : MS) (a1 : Int32)  : MS := f_MO_setEntry_c2 (ms_spaces σ16 (upd (m_spaces σ16) (Int32.toNatClampNeg a1) ((m_sys σ16 (Int32.toNatClampNeg (10 : Int32))) &&& (255 : Int32)))) a1 
def f_MO_setEntry (σ : MS) (a1 : Int32) : MS := f_MO_setEntry_c1 (ms_pages σ (upd (m_pages σ) (Int32.toNatClampNeg a1) ((m_sys σ (Int32.toNatClampNeg (10 : Int32))) &&& (-8192 : Int32)))) a1 
def P_MO_setEntry_c5 (σ99 : MS) (a1 : Int32)  : Prop := True
def P_MO_setEntry_c4 (σ80 : MS) (a1 : Int32)  : Prop := vp_in (((2 : Int32) * a1) + (1 : Int32)) 64 ∧ P_MO_setEntry_c5 (ms_halves σ80 (upd (m_halves σ80) (Int32.toNatClampNeg (((2 : Int32) * a1) + (1 : Int32))) ((m_sys σ80 (Int32.toNatClampNeg (3 : Int32))) &&& (-2 : Int32)))) a1 
def P_MO_setEntry_c3 (σ63 : MS) (a1 : Int32)  : Prop := vp_in ((2 : Int32) * a1) 64 ∧ P_MO_setEntry_c4 (ms_halves σ63 (upd (m_halves σ63) (Int32.toNatClampNeg ((2 : Int32) * a1)) ((m_sys σ63 (Int32.toNatClampNeg (2 : Int32))) &&& (-2 : Int32)))) a1 
def P_MO_setEntry_63 (σ63 : MS) (a1 : Int32) (w63_2 : Bool) : Prop := vp_in a1 32 ∧ P_MO_setEntry_c3 (ms_all σ63 (updB (m_all σ63) (Int32.toNatClampNeg a1) w63_2)) a1 
def P_MO_setEntry_c2 (σ33 : MS) (a1 : Int32)  : Prop := (((((m_sys σ33 (Int32.toNatClampNeg (2 : Int32))) &&& (m_sys σ33 (Int32.toNatClampNeg (3 : Int32)))) &&& (1 : Int32)) = (1 : Int32)) → (P_MO_setEntry_63 σ33 a1 true)) ∧ (¬ ((((m_sys σ33 (Int32.toNatClampNeg (2 : Int32))) &&& (m_sys σ33 (Int32.toNatClampNeg (3 : Int32)))) &&& (1 : Int32)) = (1 : Int32)) → (P_MO_setEntry_63 σ33 a1 false))
def P_MO_setEntry_c1 (σ16 : MS) (a1 : Int32)  : Prop := vp_in a1 32 ∧ P_MO_setEntry_c2 (ms_spaces σ16 (upd (m_spaces σ16) (Int32.toNatClampNeg a1) ((m_sys σ16 (Int32.toNatClampNeg (10 : Int32))) &&& (255 : Int32)))) a1 
def P_MO_setEntry (σ : MS) (a1 : Int32) : Prop := vp_in a1 32 ∧ P_MO_setEntry_c1 (ms_pages σ (upd (m_pages σ) (Int32.toNatClampNeg a1) ((m_sys σ (Int32.toNatClampNeg (10 : Int32))) &&& (-8192 : Int32)))) a1 
theorem d_MO_setEntry_0 : decode b_MO_setEntry 0 = .ok (.aload_n 0, 1) := by decide +kernel
theorem d_MO_setEntry_1 : decode b_MO_setEntry 1 = .ok (.getfield 24, 3) := by decide +kernel
theorem d_MO_setEntry_4 : decode b_MO_setEntry 4 = .ok (.iload_n 1, 1) := by decide +kernel
theorem d_MO_setEntry_5 : decode b_MO_setEntry 5 = .ok (.aload_n 0, 1) := by decide +kernel
theorem d_MO_setEntry_6 : decode b_MO_setEntry 6 = .ok (.getfield 17, 3) := by decide +kernel
theorem d_MO_setEntry_9 : decode b_MO_setEntry 9 = .ok (.bipush 10, 2) := by decide +kernel
theorem d_MO_setEntry_11 : decode b_MO_setEntry 11 = .ok (.iaload, 1) := by decide +kernel
theorem d_MO_setEntry_12 : decode b_MO_setEntry 12 = .ok (.sipush (-8192), 3) := by decide +kernel
theorem d_MO_setEntry_15 : decode b_MO_setEntry 15 = .ok (.iand, 1) := by decide +kernel
theorem d_MO_setEntry_16 : decode b_MO_setEntry 16 = .ok (.iastore, 1) := by decide +kernel
theorem d_MO_setEntry_17 : decode b_MO_setEntry 17 = .ok (.aload_n 0, 1) := by decide +kernel
theorem d_MO_setEntry_18 : decode b_MO_setEntry 18 = .ok (.getfield 27, 3) := by decide +kernel
theorem d_MO_setEntry_21 : decode b_MO_setEntry 21 = .ok (.iload_n 1, 1) := by decide +kernel
theorem d_MO_setEntry_22 : decode b_MO_setEntry 22 = .ok (.aload_n 0, 1) := by decide +kernel
theorem d_MO_setEntry_23 : decode b_MO_setEntry 23 = .ok (.getfield 17, 3) := by decide +kernel
theorem d_MO_setEntry_26 : decode b_MO_setEntry 26 = .ok (.bipush 10, 2) := by decide +kernel
theorem d_MO_setEntry_28 : decode b_MO_setEntry 28 = .ok (.iaload, 1) := by decide +kernel
theorem d_MO_setEntry_29 : decode b_MO_setEntry 29 = .ok (.sipush 255, 3) := by decide +kernel
theorem d_MO_setEntry_32 : decode b_MO_setEntry 32 = .ok (.iand, 1) := by decide +kernel
theorem d_MO_setEntry_33 : decode b_MO_setEntry 33 = .ok (.iastore, 1) := by decide +kernel
theorem d_MO_setEntry_34 : decode b_MO_setEntry 34 = .ok (.aload_n 0, 1) := by decide +kernel
theorem d_MO_setEntry_35 : decode b_MO_setEntry 35 = .ok (.getfield 30, 3) := by decide +kernel
theorem d_MO_setEntry_38 : decode b_MO_setEntry 38 = .ok (.iload_n 1, 1) := by decide +kernel
theorem d_MO_setEntry_39 : decode b_MO_setEntry 39 = .ok (.aload_n 0, 1) := by decide +kernel
theorem d_MO_setEntry_40 : decode b_MO_setEntry 40 = .ok (.getfield 17, 3) := by decide +kernel
theorem d_MO_setEntry_43 : decode b_MO_setEntry 43 = .ok (.iconst 2, 1) := by decide +kernel
theorem d_MO_setEntry_44 : decode b_MO_setEntry 44 = .ok (.iaload, 1) := by decide +kernel
theorem d_MO_setEntry_45 : decode b_MO_setEntry 45 = .ok (.aload_n 0, 1) := by decide +kernel
theorem d_MO_setEntry_46 : decode b_MO_setEntry 46 = .ok (.getfield 17, 3) := by decide +kernel
theorem d_MO_setEntry_49 : decode b_MO_setEntry 49 = .ok (.iconst 3, 1) := by decide +kernel
theorem d_MO_setEntry_50 : decode b_MO_setEntry 50 = .ok (.iaload, 1) := by decide +kernel
theorem d_MO_setEntry_51 : decode b_MO_setEntry 51 = .ok (.iand, 1) := by decide +kernel
theorem d_MO_setEntry_52 : decode b_MO_setEntry 52 = .ok (.iconst 1, 1) := by decide +kernel
theorem d_MO_setEntry_53 : decode b_MO_setEntry 53 = .ok (.iand, 1) := by decide +kernel
theorem d_MO_setEntry_54 : decode b_MO_setEntry 54 = .ok (.iconst 1, 1) := by decide +kernel
theorem d_MO_setEntry_55 : decode b_MO_setEntry 55 = .ok (.if_icmp .ne 7, 3) := by decide +kernel
theorem d_MO_setEntry_58 : decode b_MO_setEntry 58 = .ok (.iconst 1, 1) := by decide +kernel
theorem d_MO_setEntry_59 : decode b_MO_setEntry 59 = .ok (.goto 4, 3) := by decide +kernel
theorem d_MO_setEntry_62 : decode b_MO_setEntry 62 = .ok (.iconst 0, 1) := by decide +kernel
theorem d_MO_setEntry_63 : decode b_MO_setEntry 63 = .ok (.bastore, 1) := by decide +kernel
theorem d_MO_setEntry_64 : decode b_MO_setEntry 64 = .ok (.aload_n 0, 1) := by decide +kernel
theorem d_MO_setEntry_65 : decode b_MO_setEntry 65 = .ok (.getfield 33, 3) := by decide +kernel
theorem d_MO_setEntry_68 : decode b_MO_setEntry 68 = .ok (.iconst 2, 1) := by decide +kernel
theorem d_MO_setEntry_69 : decode b_MO_setEntry 69 = .ok (.iload_n 1, 1) := by decide +kernel
theorem d_MO_setEntry_70 : decode b_MO_setEntry 70 = .ok (.imul, 1) := by decide +kernel
theorem d_MO_setEntry_71 : decode b_MO_setEntry 71 = .ok (.aload_n 0, 1) := by decide +kernel
theorem d_MO_setEntry_72 : decode b_MO_setEntry 72 = .ok (.getfield 17, 3) := by decide +kernel
theorem d_MO_setEntry_75 : decode b_MO_setEntry 75 = .ok (.iconst 2, 1) := by decide +kernel
theorem d_MO_setEntry_76 : decode b_MO_setEntry 76 = .ok (.iaload, 1) := by decide +kernel
theorem d_MO_setEntry_77 : decode b_MO_setEntry 77 = .ok (.bipush (-2), 2) := by decide +kernel
theorem d_MO_setEntry_79 : decode b_MO_setEntry 79 = .ok (.iand, 1) := by decide +kernel
theorem d_MO_setEntry_80 : decode b_MO_setEntry 80 = .ok (.iastore, 1) := by decide +kernel
theorem d_MO_setEntry_81 : decode b_MO_setEntry 81 = .ok (.aload_n 0, 1) := by decide +kernel
theorem d_MO_setEntry_82 : decode b_MO_setEntry 82 = .ok (.getfield 33, 3) := by decide +kernel
theorem d_MO_setEntry_85 : decode b_MO_setEntry 85 = .ok (.iconst 2, 1) := by decide +kernel
theorem d_MO_setEntry_86 : decode b_MO_setEntry 86 = .ok (.iload_n 1, 1) := by decide +kernel
theorem d_MO_setEntry_87 : decode b_MO_setEntry 87 = .ok (.imul, 1) := by decide +kernel
theorem d_MO_setEntry_88 : decode b_MO_setEntry 88 = .ok (.iconst 1, 1) := by decide +kernel
theorem d_MO_setEntry_89 : decode b_MO_setEntry 89 = .ok (.iadd, 1) := by decide +kernel
theorem d_MO_setEntry_90 : decode b_MO_setEntry 90 = .ok (.aload_n 0, 1) := by decide +kernel
theorem d_MO_setEntry_91 : decode b_MO_setEntry 91 = .ok (.getfield 17, 3) := by decide +kernel
theorem d_MO_setEntry_94 : decode b_MO_setEntry 94 = .ok (.iconst 3, 1) := by decide +kernel
theorem d_MO_setEntry_95 : decode b_MO_setEntry 95 = .ok (.iaload, 1) := by decide +kernel
theorem d_MO_setEntry_96 : decode b_MO_setEntry 96 = .ok (.bipush (-2), 2) := by decide +kernel
theorem d_MO_setEntry_98 : decode b_MO_setEntry 98 = .ok (.iand, 1) := by decide +kernel
theorem d_MO_setEntry_99 : decode b_MO_setEntry 99 = .ok (.iastore, 1) := by decide +kernel
theorem d_MO_setEntry_100 : decode b_MO_setEntry 100 = .ok (.return_, 1) := by decide +kernel
set_option maxHeartbeats 4000000 in
set_option maxRecDepth 100000 in
theorem c_MO_setEntry (l : Launch) (E : Ev) (ad : Nat → Nat) (σ : MS) (a1 : Int32) (hp : P_MO_setEntry σ a1) : rC xCl l E (mW E ad) y_MO_setEntry b_MO_setEntry 2 (Option.none : Option Jvm.ClassFile.FieldType) (rmo 0 0) [.ref (ad 0), .int a1] σ (zV (f_MO_setEntry σ a1)) := by
  refine rC.of (by decide) (Nat.le_of_ble_eq_true rfl) ?_
  intro p e s m below meth c A ls hc w hl
  generalize e0 : zV (f_MO_setEntry σ a1) = Z
  have hc : Cx xCl E A p s m ([.ref (ad 0), .int a1] : List Value).toArray meth c b_MO_setEntry 2 (Option.none : Option Jvm.ClassFile.FieldType) "PageMachineModel" := hc
  have hx := hc.1
  have hb := hc.2.1
  have ho := hc.2.2.2.2.2.1
  have hT := hc.2.2.2.2.2.2.1
  have hl : lv_has ls 2 [(0, .ref (ad 0)), (1, .int a1)] := hl
  have J63 : ∀ (σ63 : MS) (w63_2 : Bool) (H : Heap) (locs : List Loc) (ls : Array Slot), Wd xCl E A s.heap H locs (mW E ad σ63) → lv_has ls 2 [(0, .ref (ad 0)), (1, .int a1)] → zV (f_MO_setEntry_63 σ63 a1 w63_2) = Z → P_MO_setEntry_63 σ63 a1 w63_2 → W p l e (rmo 0 0) s m ([.ref (ad 0), .int a1] : List Value).toArray below meth c H locs 0 0 (MQ below (rQ xCl (mW E ad) E A Z) ([.ref (ad 0), .int a1] : List Value).toArray s 0 0 A) (F0 m 63 ls [.int (zb w63_2), .int a1, .ref (ad 9)]) := by
    intro σ63 w63_2 H locs ls w hl e63 hp
    unfold P_MO_setEntry_63 at hp
    obtain ⟨hb63, hp⟩ := hp
    refine s_MO_all (v := w63_2) hc w hb63 d_MO_setEntry_63 (fun σ63 H locs hs63 w => ?_)
    rw [hs63] at hp
    unfold P_MO_setEntry_c3 at hp
    have e_c3 : zV (f_MO_setEntry_c3 σ63 a1 ) = Z := by rw [← e63, f_MO_setEntry_63, hs63]
    refine lv_aload_n hx hb d_MO_setEntry_64 rfl (lv_at hl 0 rfl) ?_
    refine g_MO_halves hc w mw_901 d_MO_setEntry_65 ?_
    refine lv_iconst (v := 2) hx hb d_MO_setEntry_68 (by decide) ?_
    refine lv_iload_n hx hb d_MO_setEntry_69 rfl (lv_at hl 1 rfl) ?_
    refine lv_imul hx hb d_MO_setEntry_70 ?_
    refine lv_aload_n hx hb d_MO_setEntry_71 rfl (lv_at hl 0 rfl) ?_
    refine g_MO_sys hc w mw_895 d_MO_setEntry_72 ?_
    refine lv_iconst (v := 2) hx hb d_MO_setEntry_75 (by decide) ?_
    refine a_MO_sys hc w (by unfold vp_in; decide) d_MO_setEntry_76 ?_
    refine lv_bipush (v := -2) hx hb d_MO_setEntry_77 (by decide) ?_
    refine lv_iand hx hb d_MO_setEntry_79 ?_
    obtain ⟨hb80, hp⟩ := hp
    refine s_MO_halves hc w hb80 d_MO_setEntry_80 (fun σ80 H locs hs80 w => ?_)
    rw [hs80] at hp
    unfold P_MO_setEntry_c4 at hp
    have e_c4 : zV (f_MO_setEntry_c4 σ80 a1 ) = Z := by rw [← e_c3, f_MO_setEntry_c3, hs80]
    refine lv_aload_n hx hb d_MO_setEntry_81 rfl (lv_at hl 0 rfl) ?_
    refine g_MO_halves hc w mw_901 d_MO_setEntry_82 ?_
    refine lv_iconst (v := 2) hx hb d_MO_setEntry_85 (by decide) ?_
    refine lv_iload_n hx hb d_MO_setEntry_86 rfl (lv_at hl 1 rfl) ?_
    refine lv_imul hx hb d_MO_setEntry_87 ?_
    refine lv_iconst (v := 1) hx hb d_MO_setEntry_88 (by decide) ?_
    refine lv_iadd hx hb d_MO_setEntry_89 ?_
    refine lv_aload_n hx hb d_MO_setEntry_90 rfl (lv_at hl 0 rfl) ?_
    refine g_MO_sys hc w mw_895 d_MO_setEntry_91 ?_
    refine lv_iconst (v := 3) hx hb d_MO_setEntry_94 (by decide) ?_
    refine a_MO_sys hc w (by unfold vp_in; decide) d_MO_setEntry_95 ?_
    refine lv_bipush (v := -2) hx hb d_MO_setEntry_96 (by decide) ?_
    refine lv_iand hx hb d_MO_setEntry_98 ?_
    obtain ⟨hb99, hp⟩ := hp
    refine s_MO_halves hc w hb99 d_MO_setEntry_99 (fun σ99 H locs hs99 w => ?_)
    rw [hs99] at hp
    unfold P_MO_setEntry_c5 at hp
    have e_c5 : zV (f_MO_setEntry_c5 σ99 a1 ) = Z := by rw [← e_c4, f_MO_setEntry_c4, hs99]
    exact rt_v hc w d_MO_setEntry_100 (by rw [← e_c5, f_MO_setEntry_c5] <;> rfl)
  unfold P_MO_setEntry at hp
  refine lv_aload_n hx hb d_MO_setEntry_0 rfl (lv_at hl 0 rfl) ?_
  refine g_MO_pages hc w mw_898 d_MO_setEntry_1 ?_
  refine lv_iload_n hx hb d_MO_setEntry_4 rfl (lv_at hl 1 rfl) ?_
  refine lv_aload_n hx hb d_MO_setEntry_5 rfl (lv_at hl 0 rfl) ?_
  refine g_MO_sys hc w mw_895 d_MO_setEntry_6 ?_
  refine lv_bipush (v := 10) hx hb d_MO_setEntry_9 (by decide) ?_
  refine a_MO_sys hc w (by unfold vp_in; decide) d_MO_setEntry_11 ?_
  refine lv_sipush (v := -8192) hx hb d_MO_setEntry_12 (by decide) ?_
  refine lv_iand hx hb d_MO_setEntry_15 ?_
  obtain ⟨hb16, hp⟩ := hp
  refine s_MO_pages hc w hb16 d_MO_setEntry_16 (fun σ16 H locs hs16 w => ?_)
  rw [hs16] at hp
  unfold P_MO_setEntry_c1 at hp
  have e_c1 : zV (f_MO_setEntry_c1 σ16 a1 ) = Z := by rw [← e0, f_MO_setEntry, hs16]
  refine lv_aload_n hx hb d_MO_setEntry_17 rfl (lv_at hl 0 rfl) ?_
  refine g_MO_spaces hc w mw_899 d_MO_setEntry_18 ?_
  refine lv_iload_n hx hb d_MO_setEntry_21 rfl (lv_at hl 1 rfl) ?_
  refine lv_aload_n hx hb d_MO_setEntry_22 rfl (lv_at hl 0 rfl) ?_
  refine g_MO_sys hc w mw_895 d_MO_setEntry_23 ?_
  refine lv_bipush (v := 10) hx hb d_MO_setEntry_26 (by decide) ?_
  refine a_MO_sys hc w (by unfold vp_in; decide) d_MO_setEntry_28 ?_
  refine lv_sipush (v := 255) hx hb d_MO_setEntry_29 (by decide) ?_
  refine lv_iand hx hb d_MO_setEntry_32 ?_
  obtain ⟨hb33, hp⟩ := hp
  refine s_MO_spaces hc w hb33 d_MO_setEntry_33 (fun σ33 H locs hs33 w => ?_)
  rw [hs33] at hp
  unfold P_MO_setEntry_c2 at hp
  have e_c2 : zV (f_MO_setEntry_c2 σ33 a1 ) = Z := by rw [← e_c1, f_MO_setEntry_c1, hs33]
  refine lv_aload_n hx hb d_MO_setEntry_34 rfl (lv_at hl 0 rfl) ?_
  refine g_MO_all hc w mw_900 d_MO_setEntry_35 ?_
  refine lv_iload_n hx hb d_MO_setEntry_38 rfl (lv_at hl 1 rfl) ?_
  refine lv_aload_n hx hb d_MO_setEntry_39 rfl (lv_at hl 0 rfl) ?_
  refine g_MO_sys hc w mw_895 d_MO_setEntry_40 ?_
  refine lv_iconst (v := 2) hx hb d_MO_setEntry_43 (by decide) ?_
  refine a_MO_sys hc w (by unfold vp_in; decide) d_MO_setEntry_44 ?_
  refine lv_aload_n hx hb d_MO_setEntry_45 rfl (lv_at hl 0 rfl) ?_
  refine g_MO_sys hc w mw_895 d_MO_setEntry_46 ?_
  refine lv_iconst (v := 3) hx hb d_MO_setEntry_49 (by decide) ?_
  refine a_MO_sys hc w (by unfold vp_in; decide) d_MO_setEntry_50 ?_
  refine lv_iand hx hb d_MO_setEntry_51 ?_
  refine lv_iconst (v := 1) hx hb d_MO_setEntry_52 (by decide) ?_
  refine lv_iand hx hb d_MO_setEntry_53 ?_
  refine lv_iconst (v := 1) hx hb d_MO_setEntry_54 (by decide) ?_
  refine lv_icmp_ne (tgt := 62) hx hb d_MO_setEntry_55 (by decide) (fun q55 => ?_) (fun q55 => ?_)
  · have hp := hp.2 q55
    refine lv_iconst (v := 0) hx hb d_MO_setEntry_62 (by decide) ?_
    exact J63 σ33 false _ _ _ w (lv_sub hl [0, 1] rfl) (by rw [← e_c2, f_MO_setEntry_c2, if_neg q55]) hp
  · have hp := hp.1 q55
    refine lv_iconst (v := 1) hx hb d_MO_setEntry_58 (by decide) ?_
    refine lv_goto (tgt := 63) hx hb d_MO_setEntry_59 (by decide) ?_
    exact J63 σ33 true _ _ _ w (lv_sub hl [0, 1] rfl) (by rw [← e_c2, f_MO_setEntry_c2, if_pos q55]) hp
-- MO_tables
def f_MO_tables_c10 (z201 : MS × Int32) (a1 : Int32)  : MS := z201.1
def f_MO_tables_198 (σ : MS) (a1 : Int32) : MS := f_MO_tables_c10 (f_MO_raise σ (10 : Int32)) a1 
def f_MO_tables_c9 (σ244 : MS) (a1 : Int32)  : MS := σ244
def f_MO_tables_c8 (σ241 : MS) (a1 : Int32)  : MS := f_MO_tables_c9 (ms_link σ241 (0 : Int32)) a1 
def f_MO_tables_c7 (σ222 : MS) (a1 : Int32)  : MS := f_MO_tables_c8 (ms_sys σ222 (upd (m_sys σ222) (Int32.toNatClampNeg (12 : Int32)) ((m_sys σ222 (Int32.toNatClampNeg (12 : Int32))) &&& (-3 : Int32)))) a1 
def f_MO_tables_191 (σ : MS) (a1 : Int32) : MS := if (zb (m_slot σ)) = 0 then (if a1 = (24 : Int32) then (f_MO_tables_c7 (ms_next σ (m_sys σ (Int32.toNatClampNeg (14 : Int32)))) a1 ) else (σ)) else (f_MO_tables_198 σ a1)
def f_MO_tables_c6 (σ175 : MS) (a1 : Int32)  : MS := σ175
def f_MO_tables_175 (σ : MS) (a1 : Int32) (w175_2 : Int32) : MS := f_MO_tables_c6 (ms_sys σ (upd (m_sys σ) (Int32.toNatClampNeg (0 : Int32)) w175_2)) a1 
def f_MO_tables_c5 (σ94 : MS) (a1 : Int32)  : MS := σ94
def f_MO_tables_93 (σ93 : MS) (a1 : Int32) (w93_2 : Int32) (w93_3 : Bool) : MS := f_MO_tables_c5 (ms_sys σ93 (upd (m_sys σ93) (Int32.toNatClampNeg (3 : Int32)) (w93_2 ||| (zb w93_3)))) a1 
def f_MO_tables_c4 (σ63 : MS) (a1 : Int32) (v62_2 : Int32) : MS := if (zb (m_all σ63 (Int32.toNatClampNeg v62_2))) = 0 then (f_MO_tables_93 σ63 a1 (m_halves σ63 (Int32.toNatClampNeg (((2 : Int32) * v62_2) + (1 : Int32)))) false) else (f_MO_tables_93 σ63 a1 (m_halves σ63 (Int32.toNatClampNeg (((2 : Int32) * v62_2) + (1 : Int32)))) true)
def f_MO_tables_62 (σ62 : MS) (a1 : Int32) (v62_2 : Int32) (w62_2 : Int32) (w62_3 : Bool) : MS := f_MO_tables_c4 (ms_sys σ62 (upd (m_sys σ62) (Int32.toNatClampNeg (2 : Int32)) (w62_2 ||| (zb w62_3)))) a1 v62_2
def f_MO_tables_c3 (σ34 : MS) (a1 : Int32) (u3_2 : Int32) : MS := if (zb (m_all σ34 (Int32.toNatClampNeg u3_2))) = 0 then (f_MO_tables_62 σ34 a1 u3_2 (m_halves σ34 (Int32.toNatClampNeg ((2 : Int32) * u3_2))) false) else (f_MO_tables_62 σ34 a1 u3_2 (m_halves σ34 (Int32.toNatClampNeg ((2 : Int32) * u3_2))) true)
def f_MO_tables_c2 (z113 : MS) (a1 : Int32)  : MS := z113
def f_MO_tables_c1 (z132 : MS) (a1 : Int32)  : MS := z132
def f_MO_tables (σ : MS) (a1 : Int32) : MS := if a1 = (1 : Int32) then (f_MO_tables_c3 (ms_sys σ (upd (m_sys σ) (Int32.toNatClampNeg (10 : Int32)) ((m_pages σ (Int32.toNatClampNeg ((m_sys σ (Int32.toNatClampNeg (0 : Int32))) &&& (31 : Int32)))) ||| (m_spaces σ (Int32.toNatClampNeg ((m_sys σ (Int32.toNatClampNeg (0 : Int32))) &&& (31 : Int32))))))) a1 ((m_sys σ (Int32.toNatClampNeg (0 : Int32))) &&& (31 : Int32))) else (if a1 = (2 : Int32) then (f_MO_tables_c2 (f_MO_setEntry σ ((m_sys σ (Int32.toNatClampNeg (0 : Int32))) &&& (31 : Int32))) a1 ) else (if a1 = (6 : Int32) then (f_MO_tables_c1 (f_MO_setEntry σ (m_sys σ (Int32.toNatClampNeg (1 : Int32)))) a1 ) else (if a1 = (8 : Int32) then (if 0 ≤ (f_MO_entryOf σ ((m_sys σ (Int32.toNatClampNeg (10 : Int32))) &&& (-8192 : Int32))) then (f_MO_tables_175 σ a1 (f_MO_entryOf σ ((m_sys σ (Int32.toNatClampNeg (10 : Int32))) &&& (-8192 : Int32)))) else (f_MO_tables_175 σ a1 (-2147483648 : Int32))) else (if a1 = (24 : Int32) then (f_MO_tables_191 σ a1) else (if a1 = (32 : Int32) then (f_MO_tables_191 σ a1) else (f_MO_tables_198 σ a1))))))
def P_MO_tables_c10 (z201 : MS × Int32) (a1 : Int32)  : Prop := True
def P_MO_tables_198 (σ : MS) (a1 : Int32) : Prop := P_MO_tables_c10 (f_MO_raise σ (10 : Int32)) a1 
def P_MO_tables_c9 (σ244 : MS) (a1 : Int32)  : Prop := True
def P_MO_tables_c8 (σ241 : MS) (a1 : Int32)  : Prop := P_MO_tables_c9 (ms_link σ241 (0 : Int32)) a1 
def P_MO_tables_c7 (σ222 : MS) (a1 : Int32)  : Prop := P_MO_tables_c8 (ms_sys σ222 (upd (m_sys σ222) (Int32.toNatClampNeg (12 : Int32)) ((m_sys σ222 (Int32.toNatClampNeg (12 : Int32))) &&& (-3 : Int32)))) a1 
def P_MO_tables_191 (σ : MS) (a1 : Int32) : Prop := (((zb (m_slot σ)) = 0) → (((a1 = (24 : Int32)) → (P_MO_tables_c7 (ms_next σ (m_sys σ (Int32.toNatClampNeg (14 : Int32)))) a1 )) ∧ (¬ (a1 = (24 : Int32)) → (True)))) ∧ (¬ ((zb (m_slot σ)) = 0) → (P_MO_tables_198 σ a1))
def P_MO_tables_c6 (σ175 : MS) (a1 : Int32)  : Prop := True
def P_MO_tables_175 (σ : MS) (a1 : Int32) (w175_2 : Int32) : Prop := P_MO_tables_c6 (ms_sys σ (upd (m_sys σ) (Int32.toNatClampNeg (0 : Int32)) w175_2)) a1 
def P_MO_tables_c5 (σ94 : MS) (a1 : Int32)  : Prop := True
def P_MO_tables_93 (σ93 : MS) (a1 : Int32) (w93_2 : Int32) (w93_3 : Bool) : Prop := P_MO_tables_c5 (ms_sys σ93 (upd (m_sys σ93) (Int32.toNatClampNeg (3 : Int32)) (w93_2 ||| (zb w93_3)))) a1 
def P_MO_tables_c4 (σ63 : MS) (a1 : Int32) (v62_2 : Int32) : Prop := vp_in (((2 : Int32) * v62_2) + (1 : Int32)) 64 ∧ vp_in v62_2 32 ∧ (((zb (m_all σ63 (Int32.toNatClampNeg v62_2))) = 0) → (P_MO_tables_93 σ63 a1 (m_halves σ63 (Int32.toNatClampNeg (((2 : Int32) * v62_2) + (1 : Int32)))) false)) ∧ (¬ ((zb (m_all σ63 (Int32.toNatClampNeg v62_2))) = 0) → (P_MO_tables_93 σ63 a1 (m_halves σ63 (Int32.toNatClampNeg (((2 : Int32) * v62_2) + (1 : Int32)))) true))
def P_MO_tables_62 (σ62 : MS) (a1 : Int32) (v62_2 : Int32) (w62_2 : Int32) (w62_3 : Bool) : Prop := P_MO_tables_c4 (ms_sys σ62 (upd (m_sys σ62) (Int32.toNatClampNeg (2 : Int32)) (w62_2 ||| (zb w62_3)))) a1 v62_2
def P_MO_tables_c3 (σ34 : MS) (a1 : Int32) (u3_2 : Int32) : Prop := vp_in ((2 : Int32) * u3_2) 64 ∧ (((zb (m_all σ34 (Int32.toNatClampNeg u3_2))) = 0) → (P_MO_tables_62 σ34 a1 u3_2 (m_halves σ34 (Int32.toNatClampNeg ((2 : Int32) * u3_2))) false)) ∧ (¬ ((zb (m_all σ34 (Int32.toNatClampNeg u3_2))) = 0) → (P_MO_tables_62 σ34 a1 u3_2 (m_halves σ34 (Int32.toNatClampNeg ((2 : Int32) * u3_2))) true))
def P_MO_tables_c2 (z113 : MS) (a1 : Int32)  : Prop := True
def P_MO_tables_c1 (z132 : MS) (a1 : Int32)  : Prop := True
def P_MO_tables (σ : MS) (a1 : Int32) : Prop := ((a1 = (1 : Int32)) → (P_MO_tables_c3 (ms_sys σ (upd (m_sys σ) (Int32.toNatClampNeg (10 : Int32)) ((m_pages σ (Int32.toNatClampNeg ((m_sys σ (Int32.toNatClampNeg (0 : Int32))) &&& (31 : Int32)))) ||| (m_spaces σ (Int32.toNatClampNeg ((m_sys σ (Int32.toNatClampNeg (0 : Int32))) &&& (31 : Int32))))))) a1 ((m_sys σ (Int32.toNatClampNeg (0 : Int32))) &&& (31 : Int32)))) ∧ (¬ (a1 = (1 : Int32)) → (((a1 = (2 : Int32)) → (P_MO_setEntry σ ((m_sys σ (Int32.toNatClampNeg (0 : Int32))) &&& (31 : Int32)) ∧ P_MO_tables_c2 (f_MO_setEntry σ ((m_sys σ (Int32.toNatClampNeg (0 : Int32))) &&& (31 : Int32))) a1 )) ∧ (¬ (a1 = (2 : Int32)) → (((a1 = (6 : Int32)) → (P_MO_setEntry σ (m_sys σ (Int32.toNatClampNeg (1 : Int32))) ∧ P_MO_tables_c1 (f_MO_setEntry σ (m_sys σ (Int32.toNatClampNeg (1 : Int32)))) a1 )) ∧ (¬ (a1 = (6 : Int32)) → (((a1 = (8 : Int32)) → (((0 ≤ (f_MO_entryOf σ ((m_sys σ (Int32.toNatClampNeg (10 : Int32))) &&& (-8192 : Int32)))) → (P_MO_tables_175 σ a1 (f_MO_entryOf σ ((m_sys σ (Int32.toNatClampNeg (10 : Int32))) &&& (-8192 : Int32))))) ∧ (¬ (0 ≤ (f_MO_entryOf σ ((m_sys σ (Int32.toNatClampNeg (10 : Int32))) &&& (-8192 : Int32)))) → (P_MO_tables_175 σ a1 (-2147483648 : Int32))))) ∧ (¬ (a1 = (8 : Int32)) → (((a1 = (24 : Int32)) → (P_MO_tables_191 σ a1)) ∧ (¬ (a1 = (24 : Int32)) → (((a1 = (32 : Int32)) → (P_MO_tables_191 σ a1)) ∧ (¬ (a1 = (32 : Int32)) → (P_MO_tables_198 σ a1))))))))))))
theorem d_MO_tables_0 : decode b_MO_tables 0 = .ok (.iload_n 1, 1) := by decide +kernel
theorem d_MO_tables_1 : decode b_MO_tables 1 = .ok (.iconst 1, 1) := by decide +kernel
theorem d_MO_tables_2 : decode b_MO_tables 2 = .ok (.if_icmp .ne 96, 3) := by decide +kernel
theorem d_MO_tables_5 : decode b_MO_tables 5 = .ok (.aload_n 0, 1) := by decide +kernel
theorem d_MO_tables_6 : decode b_MO_tables 6 = .ok (.getfield 17, 3) := by decide +kernel
theorem d_MO_tables_9 : decode b_MO_tables 9 = .ok (.iconst 0, 1) := by decide +kernel
theorem d_MO_tables_10 : decode b_MO_tables 10 = .ok (.iaload, 1) := by decide +kernel
theorem d_MO_tables_11 : decode b_MO_tables 11 = .ok (.bipush 31, 2) := by decide +kernel
theorem d_MO_tables_13 : decode b_MO_tables 13 = .ok (.iand, 1) := by decide +kernel
theorem d_MO_tables_14 : decode b_MO_tables 14 = .ok (.istore_n 2, 1) := by decide +kernel
theorem d_MO_tables_15 : decode b_MO_tables 15 = .ok (.aload_n 0, 1) := by decide +kernel
theorem d_MO_tables_16 : decode b_MO_tables 16 = .ok (.getfield 17, 3) := by decide +kernel
theorem d_MO_tables_19 : decode b_MO_tables 19 = .ok (.bipush 10, 2) := by decide +kernel
theorem d_MO_tables_21 : decode b_MO_tables 21 = .ok (.aload_n 0, 1) := by decide +kernel
theorem d_MO_tables_22 : decode b_MO_tables 22 = .ok (.getfield 24, 3) := by decide +kernel
theorem d_MO_tables_25 : decode b_MO_tables 25 = .ok (.iload_n 2, 1) := by decide +kernel
theorem d_MO_tables_26 : decode b_MO_tables 26 = .ok (.iaload, 1) := by decide +kernel
theorem d_MO_tables_27 : decode b_MO_tables 27 = .ok (.aload_n 0, 1) := by decide +kernel
theorem d_MO_tables_28 : decode b_MO_tables 28 = .ok (.getfield 27, 3) := by decide +kernel
theorem d_MO_tables_31 : decode b_MO_tables 31 = .ok (.iload_n 2, 1) := by decide +kernel
theorem d_MO_tables_32 : decode b_MO_tables 32 = .ok (.iaload, 1) := by decide +kernel
theorem d_MO_tables_33 : decode b_MO_tables 33 = .ok (.ior, 1) := by decide +kernel
theorem d_MO_tables_34 : decode b_MO_tables 34 = .ok (.iastore, 1) := by decide +kernel
theorem d_MO_tables_35 : decode b_MO_tables 35 = .ok (.aload_n 0, 1) := by decide +kernel
theorem d_MO_tables_36 : decode b_MO_tables 36 = .ok (.getfield 17, 3) := by decide +kernel
theorem d_MO_tables_39 : decode b_MO_tables 39 = .ok (.iconst 2, 1) := by decide +kernel
theorem d_MO_tables_40 : decode b_MO_tables 40 = .ok (.aload_n 0, 1) := by decide +kernel
theorem d_MO_tables_41 : decode b_MO_tables 41 = .ok (.getfield 33, 3) := by decide +kernel
theorem d_MO_tables_44 : decode b_MO_tables 44 = .ok (.iconst 2, 1) := by decide +kernel
theorem d_MO_tables_45 : decode b_MO_tables 45 = .ok (.iload_n 2, 1) := by decide +kernel
theorem d_MO_tables_46 : decode b_MO_tables 46 = .ok (.imul, 1) := by decide +kernel
theorem d_MO_tables_47 : decode b_MO_tables 47 = .ok (.iaload, 1) := by decide +kernel
theorem d_MO_tables_48 : decode b_MO_tables 48 = .ok (.aload_n 0, 1) := by decide +kernel
theorem d_MO_tables_49 : decode b_MO_tables 49 = .ok (.getfield 30, 3) := by decide +kernel
theorem d_MO_tables_52 : decode b_MO_tables 52 = .ok (.iload_n 2, 1) := by decide +kernel
theorem d_MO_tables_53 : decode b_MO_tables 53 = .ok (.baload, 1) := by decide +kernel
theorem d_MO_tables_54 : decode b_MO_tables 54 = .ok (.ifCond .eq 7, 3) := by decide +kernel
theorem d_MO_tables_57 : decode b_MO_tables 57 = .ok (.iconst 1, 1) := by decide +kernel
theorem d_MO_tables_58 : decode b_MO_tables 58 = .ok (.goto 4, 3) := by decide +kernel
theorem d_MO_tables_61 : decode b_MO_tables 61 = .ok (.iconst 0, 1) := by decide +kernel
theorem d_MO_tables_62 : decode b_MO_tables 62 = .ok (.ior, 1) := by decide +kernel
theorem d_MO_tables_63 : decode b_MO_tables 63 = .ok (.iastore, 1) := by decide +kernel
theorem d_MO_tables_64 : decode b_MO_tables 64 = .ok (.aload_n 0, 1) := by decide +kernel
theorem d_MO_tables_65 : decode b_MO_tables 65 = .ok (.getfield 17, 3) := by decide +kernel
theorem d_MO_tables_68 : decode b_MO_tables 68 = .ok (.iconst 3, 1) := by decide +kernel
theorem d_MO_tables_69 : decode b_MO_tables 69 = .ok (.aload_n 0, 1) := by decide +kernel
theorem d_MO_tables_70 : decode b_MO_tables 70 = .ok (.getfield 33, 3) := by decide +kernel
theorem d_MO_tables_73 : decode b_MO_tables 73 = .ok (.iconst 2, 1) := by decide +kernel
theorem d_MO_tables_74 : decode b_MO_tables 74 = .ok (.iload_n 2, 1) := by decide +kernel
theorem d_MO_tables_75 : decode b_MO_tables 75 = .ok (.imul, 1) := by decide +kernel
theorem d_MO_tables_76 : decode b_MO_tables 76 = .ok (.iconst 1, 1) := by decide +kernel
theorem d_MO_tables_77 : decode b_MO_tables 77 = .ok (.iadd, 1) := by decide +kernel
theorem d_MO_tables_78 : decode b_MO_tables 78 = .ok (.iaload, 1) := by decide +kernel
theorem d_MO_tables_79 : decode b_MO_tables 79 = .ok (.aload_n 0, 1) := by decide +kernel
theorem d_MO_tables_80 : decode b_MO_tables 80 = .ok (.getfield 30, 3) := by decide +kernel
theorem d_MO_tables_83 : decode b_MO_tables 83 = .ok (.iload_n 2, 1) := by decide +kernel
theorem d_MO_tables_84 : decode b_MO_tables 84 = .ok (.baload, 1) := by decide +kernel
theorem d_MO_tables_85 : decode b_MO_tables 85 = .ok (.ifCond .eq 7, 3) := by decide +kernel
theorem d_MO_tables_88 : decode b_MO_tables 88 = .ok (.iconst 1, 1) := by decide +kernel
theorem d_MO_tables_89 : decode b_MO_tables 89 = .ok (.goto 4, 3) := by decide +kernel
theorem d_MO_tables_92 : decode b_MO_tables 92 = .ok (.iconst 0, 1) := by decide +kernel
theorem d_MO_tables_93 : decode b_MO_tables 93 = .ok (.ior, 1) := by decide +kernel
theorem d_MO_tables_94 : decode b_MO_tables 94 = .ok (.iastore, 1) := by decide +kernel
theorem d_MO_tables_95 : decode b_MO_tables 95 = .ok (.goto 152, 3) := by decide +kernel
theorem d_MO_tables_98 : decode b_MO_tables 98 = .ok (.iload_n 1, 1) := by decide +kernel
theorem d_MO_tables_99 : decode b_MO_tables 99 = .ok (.iconst 2, 1) := by decide +kernel
theorem d_MO_tables_100 : decode b_MO_tables 100 = .ok (.if_icmp .ne 19, 3) := by decide +kernel
theorem d_MO_tables_103 : decode b_MO_tables 103 = .ok (.aload_n 0, 1) := by decide +kernel
theorem d_MO_tables_104 : decode b_MO_tables 104 = .ok (.aload_n 0, 1) := by decide +kernel
theorem d_MO_tables_105 : decode b_MO_tables 105 = .ok (.getfield 17, 3) := by decide +kernel
theorem d_MO_tables_108 : decode b_MO_tables 108 = .ok (.iconst 0, 1) := by decide +kernel
theorem d_MO_tables_109 : decode b_MO_tables 109 = .ok (.iaload, 1) := by decide +kernel
theorem d_MO_tables_110 : decode b_MO_tables 110 = .ok (.bipush 31, 2) := by decide +kernel
theorem d_MO_tables_112 : decode b_MO_tables 112 = .ok (.iand, 1) := by decide +kernel
theorem d_MO_tables_113 : decode b_MO_tables 113 = .ok (.invokevirtual 239, 3) := by decide +kernel
theorem d_MO_tables_116 : decode b_MO_tables 116 = .ok (.goto 131, 3) := by decide +kernel
theorem d_MO_tables_119 : decode b_MO_tables 119 = .ok (.iload_n 1, 1) := by decide +kernel
theorem d_MO_tables_120 : decode b_MO_tables 120 = .ok (.bipush 6, 2) := by decide +kernel
theorem d_MO_tables_122 : decode b_MO_tables 122 = .ok (.if_icmp .ne 16, 3) := by decide +kernel
theorem d_MO_tables_125 : decode b_MO_tables 125 = .ok (.aload_n 0, 1) := by decide +kernel
theorem d_MO_tables_126 : decode b_MO_tables 126 = .ok (.aload_n 0, 1) := by decide +kernel
theorem d_MO_tables_127 : decode b_MO_tables 127 = .ok (.getfield 17, 3) := by decide +kernel
theorem d_MO_tables_130 : decode b_MO_tables 130 = .ok (.iconst 1, 1) := by decide +kernel
theorem d_MO_tables_131 : decode b_MO_tables 131 = .ok (.iaload, 1) := by decide +kernel
theorem d_MO_tables_132 : decode b_MO_tables 132 = .ok (.invokevirtual 239, 3) := by decide +kernel
theorem d_MO_tables_135 : decode b_MO_tables 135 = .ok (.goto 112, 3) := by decide +kernel
theorem d_MO_tables_138 : decode b_MO_tables 138 = .ok (.iload_n 1, 1) := by decide +kernel
theorem d_MO_tables_139 : decode b_MO_tables 139 = .ok (.bipush 8, 2) := by decide +kernel
theorem d_MO_tables_141 : decode b_MO_tables 141 = .ok (.if_icmp .ne 38, 3) := by decide +kernel
theorem d_MO_tables_144 : decode b_MO_tables 144 = .ok (.aload_n 0, 1) := by decide +kernel
theorem d_MO_tables_145 : decode b_MO_tables 145 = .ok (.aload_n 0, 1) := by decide +kernel
theorem d_MO_tables_146 : decode b_MO_tables 146 = .ok (.getfield 17, 3) := by decide +kernel
theorem d_MO_tables_149 : decode b_MO_tables 149 = .ok (.bipush 10, 2) := by decide +kernel
theorem d_MO_tables_151 : decode b_MO_tables 151 = .ok (.iaload, 1) := by decide +kernel
theorem d_MO_tables_152 : decode b_MO_tables 152 = .ok (.sipush (-8192), 3) := by decide +kernel
theorem d_MO_tables_155 : decode b_MO_tables 155 = .ok (.iand, 1) := by decide +kernel
theorem d_MO_tables_156 : decode b_MO_tables 156 = .ok (.invokevirtual 120, 3) := by decide +kernel
theorem d_MO_tables_159 : decode b_MO_tables 159 = .ok (.istore_n 2, 1) := by decide +kernel
theorem d_MO_tables_160 : decode b_MO_tables 160 = .ok (.aload_n 0, 1) := by decide +kernel
theorem d_MO_tables_161 : decode b_MO_tables 161 = .ok (.getfield 17, 3) := by decide +kernel
theorem d_MO_tables_164 : decode b_MO_tables 164 = .ok (.iconst 0, 1) := by decide +kernel
theorem d_MO_tables_165 : decode b_MO_tables 165 = .ok (.iload_n 2, 1) := by decide +kernel
theorem d_MO_tables_166 : decode b_MO_tables 166 = .ok (.ifCond .ge 8, 3) := by decide +kernel
theorem d_MO_tables_169 : decode b_MO_tables 169 = .ok (.ldc 39, 2) := by decide +kernel
theorem d_MO_tables_171 : decode b_MO_tables 171 = .ok (.goto 4, 3) := by decide +kernel
theorem d_MO_tables_174 : decode b_MO_tables 174 = .ok (.iload_n 2, 1) := by decide +kernel
theorem d_MO_tables_175 : decode b_MO_tables 175 = .ok (.iastore, 1) := by decide +kernel
theorem d_MO_tables_176 : decode b_MO_tables 176 = .ok (.goto 71, 3) := by decide +kernel
theorem d_MO_tables_179 : decode b_MO_tables 179 = .ok (.iload_n 1, 1) := by decide +kernel
theorem d_MO_tables_180 : decode b_MO_tables 180 = .ok (.bipush 24, 2) := by decide +kernel
theorem d_MO_tables_182 : decode b_MO_tables 182 = .ok (.if_icmp .eq 9, 3) := by decide +kernel
theorem d_MO_tables_185 : decode b_MO_tables 185 = .ok (.iload_n 1, 1) := by decide +kernel
theorem d_MO_tables_186 : decode b_MO_tables 186 = .ok (.bipush 32, 2) := by decide +kernel
theorem d_MO_tables_188 : decode b_MO_tables 188 = .ok (.if_icmp .ne 10, 3) := by decide +kernel
theorem d_MO_tables_191 : decode b_MO_tables 191 = .ok (.aload_n 0, 1) := by decide +kernel
theorem d_MO_tables_192 : decode b_MO_tables 192 = .ok (.getfield 68, 3) := by decide +kernel
theorem d_MO_tables_195 : decode b_MO_tables 195 = .ok (.ifCond .eq 13, 3) := by decide +kernel
theorem d_MO_tables_198 : decode b_MO_tables 198 = .ok (.aload_n 0, 1) := by decide +kernel
theorem d_MO_tables_199 : decode b_MO_tables 199 = .ok (.bipush 10, 2) := by decide +kernel
theorem d_MO_tables_201 : decode b_MO_tables 201 = .ok (.invokevirtual 196, 3) := by decide +kernel
theorem d_MO_tables_204 : decode b_MO_tables 204 = .ok (.pop, 1) := by decide +kernel
theorem d_MO_tables_205 : decode b_MO_tables 205 = .ok (.goto 42, 3) := by decide +kernel
theorem d_MO_tables_208 : decode b_MO_tables 208 = .ok (.iload_n 1, 1) := by decide +kernel
theorem d_MO_tables_209 : decode b_MO_tables 209 = .ok (.bipush 24, 2) := by decide +kernel
theorem d_MO_tables_211 : decode b_MO_tables 211 = .ok (.if_icmp .ne 36, 3) := by decide +kernel
theorem d_MO_tables_214 : decode b_MO_tables 214 = .ok (.aload_n 0, 1) := by decide +kernel
theorem d_MO_tables_215 : decode b_MO_tables 215 = .ok (.aload_n 0, 1) := by decide +kernel
theorem d_MO_tables_216 : decode b_MO_tables 216 = .ok (.getfield 17, 3) := by decide +kernel
theorem d_MO_tables_219 : decode b_MO_tables 219 = .ok (.bipush 14, 2) := by decide +kernel
theorem d_MO_tables_221 : decode b_MO_tables 221 = .ok (.iaload, 1) := by decide +kernel
theorem d_MO_tables_222 : decode b_MO_tables 222 = .ok (.putfield 156, 3) := by decide +kernel
theorem d_MO_tables_225 : decode b_MO_tables 225 = .ok (.aload_n 0, 1) := by decide +kernel
theorem d_MO_tables_226 : decode b_MO_tables 226 = .ok (.getfield 17, 3) := by decide +kernel
theorem d_MO_tables_229 : decode b_MO_tables 229 = .ok (.bipush 12, 2) := by decide +kernel
theorem d_MO_tables_231 : decode b_MO_tables 231 = .ok (.aload_n 0, 1) := by decide +kernel
theorem d_MO_tables_232 : decode b_MO_tables 232 = .ok (.getfield 17, 3) := by decide +kernel
theorem d_MO_tables_235 : decode b_MO_tables 235 = .ok (.bipush 12, 2) := by decide +kernel
theorem d_MO_tables_237 : decode b_MO_tables 237 = .ok (.iaload, 1) := by decide +kernel
theorem d_MO_tables_238 : decode b_MO_tables 238 = .ok (.bipush (-3), 2) := by decide +kernel
theorem d_MO_tables_240 : decode b_MO_tables 240 = .ok (.iand, 1) := by decide +kernel
theorem d_MO_tables_241 : decode b_MO_tables 241 = .ok (.iastore, 1) := by decide +kernel
theorem d_MO_tables_242 : decode b_MO_tables 242 = .ok (.aload_n 0, 1) := by decide +kernel
theorem d_MO_tables_243 : decode b_MO_tables 243 = .ok (.iconst 0, 1) := by decide +kernel
theorem d_MO_tables_244 : decode b_MO_tables 244 = .ok (.putfield 242, 3) := by decide +kernel
theorem d_MO_tables_247 : decode b_MO_tables 247 = .ok (.return_, 1) := by decide +kernel
set_option maxHeartbeats 4000000 in
set_option maxRecDepth 100000 in
theorem c_MO_tables (l : Launch) (E : Ev) (ad : Nat → Nat) (σ : MS) (a1 : Int32) (hp : P_MO_tables σ a1) : rC xCl l E (mW E ad) y_MO_tables b_MO_tables 3 (Option.none : Option Jvm.ClassFile.FieldType) (rmo 2 45) [.ref (ad 0), .int a1] σ (zV (f_MO_tables σ a1)) := by
  refine rC.of (by decide) (Nat.le_of_ble_eq_true rfl) ?_
  intro p e s m below meth c A ls hc w hl
  generalize e0 : zV (f_MO_tables σ a1) = Z
  have hc : Cx xCl E A p s m ([.ref (ad 0), .int a1] : List Value).toArray meth c b_MO_tables 3 (Option.none : Option Jvm.ClassFile.FieldType) "PageMachineModel" := hc
  have hx := hc.1
  have hb := hc.2.1
  have ho := hc.2.2.2.2.2.1
  have hT := hc.2.2.2.2.2.2.1
  have hl : lv_has ls 3 [(0, .ref (ad 0)), (1, .int a1)] := hl
  have J198 : ∀ (H : Heap) (locs : List Loc) (ls : Array Slot), Wd xCl E A s.heap H locs (mW E ad σ) → lv_has ls 3 [(0, .ref (ad 0))] → zV (f_MO_tables_198 σ a1) = Z → P_MO_tables_198 σ a1 → W p l e (rmo 2 45) s m ([.ref (ad 0), .int a1] : List Value).toArray below meth c H locs 0 0 (MQ below (rQ xCl (mW E ad) E A Z) ([.ref (ad 0), .int a1] : List Value).toArray s 0 0 A) (F0 m 198 ls []) := by
    intro  H locs ls w hl e198 hp
    unfold P_MO_tables_198 at hp
    refine lv_aload_n hx hb d_MO_tables_198 rfl (lv_at hl 0 rfl) ?_
    refine lv_bipush (v := 10) hx hb d_MO_tables_199 (by decide) ?_
    refine cVI (rest := []) hc w (c_MO_raise l E ad σ (10 : Int32)) kv_MO_raise mw_1079 0 rfl rfl ⟨Nat.le_of_ble_eq_true rfl, Nat.le_of_ble_eq_true rfl⟩ hl.1 rfl (Nat.le_of_ble_eq_true rfl) ⟨Nat.zero_le _, Nat.zero_le _⟩ d_MO_tables_201 (fun z201 H locs hs201 w => ?_)
    rw [hs201] at hp
    unfold P_MO_tables_c10 at hp
    have e_c10 : zV (f_MO_tables_c10 z201 a1 ) = Z := by rw [← e198, f_MO_tables_198, hs201]
    refine lv_pop hx hb d_MO_tables_204 rfl ?_
    refine lv_goto (tgt := 247) hx hb d_MO_tables_205 (by decide) ?_
    exact rt_v hc w d_MO_tables_247 (by rw [← e_c10, f_MO_tables_c10] <;> rfl)
  have J191 : ∀ (H : Heap) (locs : List Loc) (ls : Array Slot), Wd xCl E A s.heap H locs (mW E ad σ) → lv_has ls 3 [(0, .ref (ad 0)), (1, .int a1)] → zV (f_MO_tables_191 σ a1) = Z → P_MO_tables_191 σ a1 → W p l e (rmo 2 45) s m ([.ref (ad 0), .int a1] : List Value).toArray below meth c H locs 0 0 (MQ below (rQ xCl (mW E ad) E A Z) ([.ref (ad 0), .int a1] : List Value).toArray s 0 0 A) (F0 m 191 ls []) := by
    intro  H locs ls w hl e191 hp
    unfold P_MO_tables_191 at hp
    refine lv_aload_n hx hb d_MO_tables_191 rfl (lv_at hl 0 rfl) ?_
    refine g_MO_slot hc w mw_894 d_MO_tables_192 ?_
    refine lv_if_eq (tgt := 208) hx hb d_MO_tables_195 (by decide) (fun q195 => ?_) (fun q195 => ?_)
    · have hp := hp.1 q195
      refine lv_iload_n hx hb d_MO_tables_208 rfl (lv_at hl 1 rfl) ?_
      refine lv_bipush (v := 24) hx hb d_MO_tables_209 (by decide) ?_
      refine lv_icmp_ne (tgt := 247) hx hb d_MO_tables_211 (by decide) (fun q211 => ?_) (fun q211 => ?_)
      · have hp := hp.2 q211
        exact rt_v hc w d_MO_tables_247 (by rw [← e191, f_MO_tables_191, if_pos q195, if_neg q211] <;> rfl)
      · have hp := hp.1 q211
        refine lv_aload_n hx hb d_MO_tables_214 rfl (lv_at hl 0 rfl) ?_
        refine lv_aload_n hx hb d_MO_tables_215 rfl (lv_at hl 0 rfl) ?_
        refine g_MO_sys hc w mw_895 d_MO_tables_216 ?_
        refine lv_bipush (v := 14) hx hb d_MO_tables_219 (by decide) ?_
        refine a_MO_sys hc w (by unfold vp_in; decide) d_MO_tables_221 ?_
        refine p_MO_next hc w mw_909 d_MO_tables_222 (fun σ222 H locs hs222 w => ?_)
        rw [hs222] at hp
        unfold P_MO_tables_c7 at hp
        have e_c7 : zV (f_MO_tables_c7 σ222 a1 ) = Z := by rw [← e191, f_MO_tables_191, if_pos q195, if_pos q211, hs222]
        refine lv_aload_n hx hb d_MO_tables_225 rfl (lv_at hl 0 rfl) ?_
        refine g_MO_sys hc w mw_895 d_MO_tables_226 ?_
        refine lv_bipush (v := 12) hx hb d_MO_tables_229 (by decide) ?_
        refine lv_aload_n hx hb d_MO_tables_231 rfl (lv_at hl 0 rfl) ?_
        refine g_MO_sys hc w mw_895 d_MO_tables_232 ?_
        refine lv_bipush (v := 12) hx hb d_MO_tables_235 (by decide) ?_
        refine a_MO_sys hc w (by unfold vp_in; decide) d_MO_tables_237 ?_
        refine lv_bipush (v := -3) hx hb d_MO_tables_238 (by decide) ?_
        refine lv_iand hx hb d_MO_tables_240 ?_
        refine s_MO_sys hc w (by unfold vp_in; decide) d_MO_tables_241 (fun σ241 H locs hs241 w => ?_)
        rw [hs241] at hp
        unfold P_MO_tables_c8 at hp
        have e_c8 : zV (f_MO_tables_c8 σ241 a1 ) = Z := by rw [← e_c7, f_MO_tables_c7, hs241]
        refine lv_aload_n hx hb d_MO_tables_242 rfl (lv_at hl 0 rfl) ?_
        refine lv_iconst (v := 0) hx hb d_MO_tables_243 (by decide) ?_
        refine p_MO_link hc w mw_893 d_MO_tables_244 (fun σ244 H locs hs244 w => ?_)
        rw [hs244] at hp
        unfold P_MO_tables_c9 at hp
        have e_c9 : zV (f_MO_tables_c9 σ244 a1 ) = Z := by rw [← e_c8, f_MO_tables_c8, hs244]
        exact rt_v hc w d_MO_tables_247 (by rw [← e_c9, f_MO_tables_c9] <;> rfl)
    · have hp := hp.2 q195
      exact J198  _ _ _ w (lv_sub hl [0] rfl) (by rw [← e191, f_MO_tables_191, if_neg q195]) hp
  have J175 : ∀ (w175_2 : Int32) (H : Heap) (locs : List Loc) (ls : Array Slot), Wd xCl E A s.heap H locs (mW E ad σ) → lv_has ls 3 [] → zV (f_MO_tables_175 σ a1 w175_2) = Z → P_MO_tables_175 σ a1 w175_2 → W p l e (rmo 2 45) s m ([.ref (ad 0), .int a1] : List Value).toArray below meth c H locs 0 0 (MQ below (rQ xCl (mW E ad) E A Z) ([.ref (ad 0), .int a1] : List Value).toArray s 0 0 A) (F0 m 175 ls [.int w175_2, .int (0 : Int32), .ref (ad 3)]) := by
    intro w175_2 H locs ls w hl e175 hp
    unfold P_MO_tables_175 at hp
    refine s_MO_sys hc w (by unfold vp_in; decide) d_MO_tables_175 (fun σ175 H locs hs175 w => ?_)
    rw [hs175] at hp
    unfold P_MO_tables_c6 at hp
    have e_c6 : zV (f_MO_tables_c6 σ175 a1 ) = Z := by rw [← e175, f_MO_tables_175, hs175]
    refine lv_goto (tgt := 247) hx hb d_MO_tables_176 (by decide) ?_
    exact rt_v hc w d_MO_tables_247 (by rw [← e_c6, f_MO_tables_c6] <;> rfl)
  have J93 : ∀ (σ93 : MS) (w93_2 : Int32) (w93_3 : Bool) (H : Heap) (locs : List Loc) (ls : Array Slot), Wd xCl E A s.heap H locs (mW E ad σ93) → lv_has ls 3 [] → zV (f_MO_tables_93 σ93 a1 w93_2 w93_3) = Z → P_MO_tables_93 σ93 a1 w93_2 w93_3 → W p l e (rmo 2 45) s m ([.ref (ad 0), .int a1] : List Value).toArray below meth c H locs 0 0 (MQ below (rQ xCl (mW E ad) E A Z) ([.ref (ad 0), .int a1] : List Value).toArray s 0 0 A) (F0 m 93 ls [.int (zb w93_3), .int w93_2, .int (3 : Int32), .ref (ad 3)]) := by
    intro σ93 w93_2 w93_3 H locs ls w hl e93 hp
    unfold P_MO_tables_93 at hp
    refine lv_ior hx hb d_MO_tables_93 ?_
    refine s_MO_sys hc w (by unfold vp_in; decide) d_MO_tables_94 (fun σ94 H locs hs94 w => ?_)
    rw [hs94] at hp
    unfold P_MO_tables_c5 at hp
    have e_c5 : zV (f_MO_tables_c5 σ94 a1 ) = Z := by rw [← e93, f_MO_tables_93, hs94]
    refine lv_goto (tgt := 247) hx hb d_MO_tables_95 (by decide) ?_
    exact rt_v hc w d_MO_tables_247 (by rw [← e_c5, f_MO_tables_c5] <;> rfl)
  have J62 : ∀ (σ62 : MS) (v62_2 : Int32) (w62_2 : Int32) (w62_3 : Bool) (H : Heap) (locs : List Loc) (ls : Array Slot), Wd xCl E A s.heap H locs (mW E ad σ62) → lv_has ls 3 [(2, .int v62_2), (0, .ref (ad 0))] → zV (f_MO_tables_62 σ62 a1 v62_2 w62_2 w62_3) = Z → P_MO_tables_62 σ62 a1 v62_2 w62_2 w62_3 → W p l e (rmo 2 45) s m ([.ref (ad 0), .int a1] : List Value).toArray below meth c H locs 0 0 (MQ below (rQ xCl (mW E ad) E A Z) ([.ref (ad 0), .int a1] : List Value).toArray s 0 0 A) (F0 m 62 ls [.int (zb w62_3), .int w62_2, .int (2 : Int32), .ref (ad 3)]) := by
    intro σ62 v62_2 w62_2 w62_3 H locs ls w hl e62 hp
    unfold P_MO_tables_62 at hp
    refine lv_ior hx hb d_MO_tables_62 ?_
    refine s_MO_sys hc w (by unfold vp_in; decide) d_MO_tables_63 (fun σ63 H locs hs63 w => ?_)
    rw [hs63] at hp
    unfold P_MO_tables_c4 at hp
    have e_c4 : zV (f_MO_tables_c4 σ63 a1 v62_2) = Z := by rw [← e62, f_MO_tables_62, hs63]
    refine lv_aload_n hx hb d_MO_tables_64 rfl (lv_at hl 1 rfl) ?_
    refine g_MO_sys hc w mw_895 d_MO_tables_65 ?_
    refine lv_iconst (v := 3) hx hb d_MO_tables_68 (by decide) ?_
    refine lv_aload_n hx hb d_MO_tables_69 rfl (lv_at hl 1 rfl) ?_
    refine g_MO_halves hc w mw_901 d_MO_tables_70 ?_
    refine lv_iconst (v := 2) hx hb d_MO_tables_73 (by decide) ?_
    refine lv_iload_n hx hb d_MO_tables_74 rfl (lv_at hl 0 rfl) ?_
    refine lv_imul hx hb d_MO_tables_75 ?_
    refine lv_iconst (v := 1) hx hb d_MO_tables_76 (by decide) ?_
    refine lv_iadd hx hb d_MO_tables_77 ?_
    obtain ⟨hb78, hp⟩ := hp
    refine a_MO_halves hc w hb78 d_MO_tables_78 ?_
    refine lv_aload_n hx hb d_MO_tables_79 rfl (lv_at hl 1 rfl) ?_
    refine g_MO_all hc w mw_900 d_MO_tables_80 ?_
    refine lv_iload_n hx hb d_MO_tables_83 rfl (lv_at hl 0 rfl) ?_
    obtain ⟨hb84, hp⟩ := hp
    refine a_MO_all hc w hb84 d_MO_tables_84 ?_
    refine lv_if_eq (tgt := 92) hx hb d_MO_tables_85 (by decide) (fun q85 => ?_) (fun q85 => ?_)
    · have hp := hp.1 q85
      refine lv_iconst (v := 0) hx hb d_MO_tables_92 (by decide) ?_
      exact J93 σ63 (m_halves σ63 (Int32.toNatClampNeg (((2 : Int32) * v62_2) + (1 : Int32)))) false _ _ _ w (lv_sub hl [] rfl) (by rw [← e_c4, f_MO_tables_c4, if_pos q85]) hp
    · have hp := hp.2 q85
      refine lv_iconst (v := 1) hx hb d_MO_tables_88 (by decide) ?_
      refine lv_goto (tgt := 93) hx hb d_MO_tables_89 (by decide) ?_
      exact J93 σ63 (m_halves σ63 (Int32.toNatClampNeg (((2 : Int32) * v62_2) + (1 : Int32)))) true _ _ _ w (lv_sub hl [] rfl) (by rw [← e_c4, f_MO_tables_c4, if_neg q85]) hp
  unfold P_MO_tables at hp
  refine lv_iload_n hx hb d_MO_tables_0 rfl (lv_at hl 1 rfl) ?_
  refine lv_iconst (v := 1) hx hb d_MO_tables_1 (by decide) ?_
  refine lv_icmp_ne (tgt := 98) hx hb d_MO_tables_2 (by decide) (fun q2 => ?_) (fun q2 => ?_)
  · have hp := hp.2 q2
    refine lv_iload_n hx hb d_MO_tables_98 rfl (lv_at hl 1 rfl) ?_
    refine lv_iconst (v := 2) hx hb d_MO_tables_99 (by decide) ?_
    refine lv_icmp_ne (tgt := 119) hx hb d_MO_tables_100 (by decide) (fun q100 => ?_) (fun q100 => ?_)
    · have hp := hp.2 q100
      refine lv_iload_n hx hb d_MO_tables_119 rfl (lv_at hl 1 rfl) ?_
      refine lv_bipush (v := 6) hx hb d_MO_tables_120 (by decide) ?_
      refine lv_icmp_ne (tgt := 138) hx hb d_MO_tables_122 (by decide) (fun q122 => ?_) (fun q122 => ?_)
      · have hp := hp.2 q122
        refine lv_iload_n hx hb d_MO_tables_138 rfl (lv_at hl 1 rfl) ?_
        refine lv_bipush (v := 8) hx hb d_MO_tables_139 (by decide) ?_
        refine lv_icmp_ne (tgt := 179) hx hb d_MO_tables_141 (by decide) (fun q141 => ?_) (fun q141 => ?_)
        · have hp := hp.2 q141
          refine lv_iload_n hx hb d_MO_tables_179 rfl (lv_at hl 1 rfl) ?_
          refine lv_bipush (v := 24) hx hb d_MO_tables_180 (by decide) ?_
          refine lv_icmp_eq (tgt := 191) hx hb d_MO_tables_182 (by decide) (fun q182 => ?_) (fun q182 => ?_)
          · have hp := hp.1 q182
            exact J191  _ _ _ w (lv_sub hl [0, 1] rfl) (by rw [← e0, f_MO_tables, if_neg q2, if_neg q100, if_neg q122, if_neg q141, if_pos q182]) hp
          · have hp := hp.2 q182
            refine lv_iload_n hx hb d_MO_tables_185 rfl (lv_at hl 1 rfl) ?_
            refine lv_bipush (v := 32) hx hb d_MO_tables_186 (by decide) ?_
            refine lv_icmp_ne (tgt := 198) hx hb d_MO_tables_188 (by decide) (fun q188 => ?_) (fun q188 => ?_)
            · have hp := hp.2 q188
              exact J198  _ _ _ w (lv_sub hl [0] rfl) (by rw [← e0, f_MO_tables, if_neg q2, if_neg q100, if_neg q122, if_neg q141, if_neg q182, if_neg q188]) hp
            · have hp := hp.1 q188
              exact J191  _ _ _ w (lv_sub hl [0, 1] rfl) (by rw [← e0, f_MO_tables, if_neg q2, if_neg q100, if_neg q122, if_neg q141, if_neg q182, if_pos q188]) hp
        · have hp := hp.1 q141
          refine lv_aload_n hx hb d_MO_tables_144 rfl (lv_at hl 0 rfl) ?_
          refine lv_aload_n hx hb d_MO_tables_145 rfl (lv_at hl 0 rfl) ?_
          refine g_MO_sys hc w mw_895 d_MO_tables_146 ?_
          refine lv_bipush (v := 10) hx hb d_MO_tables_149 (by decide) ?_
          refine a_MO_sys hc w (by unfold vp_in; decide) d_MO_tables_151 ?_
          refine lv_sipush (v := -8192) hx hb d_MO_tables_152 (by decide) ?_
          refine lv_iand hx hb d_MO_tables_155 ?_
          refine rVI (rest := []) hc w (c_MO_entryOf l E ad σ ((m_sys σ (Int32.toNatClampNeg (10 : Int32))) &&& (-8192 : Int32))) kv_MO_entryOf mw_1060 0 rfl rfl ⟨Nat.le_of_ble_eq_true rfl, Nat.le_of_ble_eq_true rfl⟩ hl.1 rfl (Nat.le_of_ble_eq_true rfl) ⟨Nat.zero_le _, Nat.zero_le _⟩ d_MO_tables_156 (fun H locs w => ?_)
          refine lv_istore_n (lv' := [(2, .int (f_MO_entryOf σ ((m_sys σ (Int32.toNatClampNeg (10 : Int32))) &&& (-8192 : Int32)))), (0, .ref (ad 0)), (1, .int a1)]) hx hb d_MO_tables_159 rfl hl (by decide) rfl (fun ls hl => ?_)
          refine lv_aload_n hx hb d_MO_tables_160 rfl (lv_at hl 1 rfl) ?_
          refine g_MO_sys hc w mw_895 d_MO_tables_161 ?_
          refine lv_iconst (v := 0) hx hb d_MO_tables_164 (by decide) ?_
          refine lv_iload_n hx hb d_MO_tables_165 rfl (lv_at hl 0 rfl) ?_
          refine lv_if_ge (tgt := 174) hx hb d_MO_tables_166 (by decide) (fun q166 => ?_) (fun q166 => ?_)
          · have hp := hp.1 q166
            refine lv_iload_n hx hb d_MO_tables_174 rfl (lv_at hl 0 rfl) ?_
            exact J175 (f_MO_entryOf σ ((m_sys σ (Int32.toNatClampNeg (10 : Int32))) &&& (-8192 : Int32))) _ _ _ w (lv_sub hl [] rfl) (by rw [← e0, f_MO_tables, if_neg q2, if_neg q100, if_neg q122, if_pos q141, if_pos q166]) hp
          · have hp := hp.2 q166
            refine lv_ldc (v := -2147483648) hx hb ho (hT _ mw_884) d_MO_tables_169 ?_
            refine lv_goto (tgt := 175) hx hb d_MO_tables_171 (by decide) ?_
            exact J175 (-2147483648 : Int32) _ _ _ w (lv_sub hl [] rfl) (by rw [← e0, f_MO_tables, if_neg q2, if_neg q100, if_neg q122, if_pos q141, if_neg q166]) hp
      · have hp := hp.1 q122
        refine lv_aload_n hx hb d_MO_tables_125 rfl (lv_at hl 0 rfl) ?_
        refine lv_aload_n hx hb d_MO_tables_126 rfl (lv_at hl 0 rfl) ?_
        refine g_MO_sys hc w mw_895 d_MO_tables_127 ?_
        refine lv_iconst (v := 1) hx hb d_MO_tables_130 (by decide) ?_
        refine a_MO_sys hc w (by unfold vp_in; decide) d_MO_tables_131 ?_
        obtain ⟨hP132, hp⟩ := hp
        refine cVV (rest := []) hc w (c_MO_setEntry l E ad σ (m_sys σ (Int32.toNatClampNeg (1 : Int32))) hP132) kv_MO_setEntry mw_1140 0 rfl rfl ⟨Nat.le_of_ble_eq_true rfl, Nat.le_of_ble_eq_true rfl⟩ hl.1 rfl (Nat.le_of_ble_eq_true rfl) ⟨Nat.zero_le _, Nat.zero_le _⟩ d_MO_tables_132 (fun z132 H locs hs132 w => ?_)
        rw [hs132] at hp
        unfold P_MO_tables_c1 at hp
        have e_c1 : zV (f_MO_tables_c1 z132 a1 ) = Z := by rw [← e0, f_MO_tables, if_neg q2, if_neg q100, if_pos q122, hs132]
        refine lv_goto (tgt := 247) hx hb d_MO_tables_135 (by decide) ?_
        exact rt_v hc w d_MO_tables_247 (by rw [← e_c1, f_MO_tables_c1] <;> rfl)
    · have hp := hp.1 q100
      refine lv_aload_n hx hb d_MO_tables_103 rfl (lv_at hl 0 rfl) ?_
      refine lv_aload_n hx hb d_MO_tables_104 rfl (lv_at hl 0 rfl) ?_
      refine g_MO_sys hc w mw_895 d_MO_tables_105 ?_
      refine lv_iconst (v := 0) hx hb d_MO_tables_108 (by decide) ?_
      refine a_MO_sys hc w (by unfold vp_in; decide) d_MO_tables_109 ?_
      refine lv_bipush (v := 31) hx hb d_MO_tables_110 (by decide) ?_
      refine lv_iand hx hb d_MO_tables_112 ?_
      obtain ⟨hP113, hp⟩ := hp
      refine cVV (rest := []) hc w (c_MO_setEntry l E ad σ ((m_sys σ (Int32.toNatClampNeg (0 : Int32))) &&& (31 : Int32)) hP113) kv_MO_setEntry mw_1140 0 rfl rfl ⟨Nat.le_of_ble_eq_true rfl, Nat.le_of_ble_eq_true rfl⟩ hl.1 rfl (Nat.le_of_ble_eq_true rfl) ⟨Nat.zero_le _, Nat.zero_le _⟩ d_MO_tables_113 (fun z113 H locs hs113 w => ?_)
      rw [hs113] at hp
      unfold P_MO_tables_c2 at hp
      have e_c2 : zV (f_MO_tables_c2 z113 a1 ) = Z := by rw [← e0, f_MO_tables, if_neg q2, if_pos q100, hs113]
      refine lv_goto (tgt := 247) hx hb d_MO_tables_116 (by decide) ?_
      exact rt_v hc w d_MO_tables_247 (by rw [← e_c2, f_MO_tables_c2] <;> rfl)
  · have hp := hp.1 q2
    refine lv_aload_n hx hb d_MO_tables_5 rfl (lv_at hl 0 rfl) ?_
    refine g_MO_sys hc w mw_895 d_MO_tables_6 ?_
    refine lv_iconst (v := 0) hx hb d_MO_tables_9 (by decide) ?_
    refine a_MO_sys hc w (by unfold vp_in; decide) d_MO_tables_10 ?_
    refine lv_bipush (v := 31) hx hb d_MO_tables_11 (by decide) ?_
    refine lv_iand hx hb d_MO_tables_13 ?_
    refine lv_istore_n (lv' := [(2, .int ((m_sys σ (Int32.toNatClampNeg (0 : Int32))) &&& (31 : Int32))), (0, .ref (ad 0)), (1, .int a1)]) hx hb d_MO_tables_14 rfl hl (by decide) rfl (fun ls hl => ?_)
    refine lv_aload_n hx hb d_MO_tables_15 rfl (lv_at hl 1 rfl) ?_
    refine g_MO_sys hc w mw_895 d_MO_tables_16 ?_
    refine lv_bipush (v := 10) hx hb d_MO_tables_19 (by decide) ?_
    refine lv_aload_n hx hb d_MO_tables_21 rfl (lv_at hl 1 rfl) ?_
    refine g_MO_pages hc w mw_898 d_MO_tables_22 ?_
    refine lv_iload_n hx hb d_MO_tables_25 rfl (lv_at hl 0 rfl) ?_
    refine a_MO_pages hc w (bd31 _) d_MO_tables_26 ?_
    refine lv_aload_n hx hb d_MO_tables_27 rfl (lv_at hl 1 rfl) ?_
    refine g_MO_spaces hc w mw_899 d_MO_tables_28 ?_
    refine lv_iload_n hx hb d_MO_tables_31 rfl (lv_at hl 0 rfl) ?_
    refine a_MO_spaces hc w (bd31 _) d_MO_tables_32 ?_
    refine lv_ior hx hb d_MO_tables_33 ?_
    refine s_MO_sys hc w (by unfold vp_in; decide) d_MO_tables_34 (fun σ34 H locs hs34 w => ?_)
    generalize hv_u3_2 : (m_sys σ (Int32.toNatClampNeg (0 : Int32))) &&& (31 : Int32) = u3_2 at hl ⊢
    rw [hs34, hv_u3_2] at hp
    unfold P_MO_tables_c3 at hp
    have e_c3 : zV (f_MO_tables_c3 σ34 a1 u3_2) = Z := by rw [← e0, f_MO_tables, if_pos q2, hs34, hv_u3_2]
    refine lv_aload_n hx hb d_MO_tables_35 rfl (lv_at hl 1 rfl) ?_
    refine g_MO_sys hc w mw_895 d_MO_tables_36 ?_
    refine lv_iconst (v := 2) hx hb d_MO_tables_39 (by decide) ?_
    refine lv_aload_n hx hb d_MO_tables_40 rfl (lv_at hl 1 rfl) ?_
    refine g_MO_halves hc w mw_901 d_MO_tables_41 ?_
    refine lv_iconst (v := 2) hx hb d_MO_tables_44 (by decide) ?_
    refine lv_iload_n hx hb d_MO_tables_45 rfl (lv_at hl 0 rfl) ?_
    refine lv_imul hx hb d_MO_tables_46 ?_
    obtain ⟨hb47, hp⟩ := hp
    refine a_MO_halves hc w hb47 d_MO_tables_47 ?_
    refine lv_aload_n hx hb d_MO_tables_48 rfl (lv_at hl 1 rfl) ?_
    refine g_MO_all hc w mw_900 d_MO_tables_49 ?_
    refine lv_iload_n hx hb d_MO_tables_52 rfl (lv_at hl 0 rfl) ?_
    refine a_MO_all hc w (by rw [← hv_u3_2]; exact bd31 _) d_MO_tables_53 ?_
    refine lv_if_eq (tgt := 61) hx hb d_MO_tables_54 (by decide) (fun q54 => ?_) (fun q54 => ?_)
    · have hp := hp.1 q54
      refine lv_iconst (v := 0) hx hb d_MO_tables_61 (by decide) ?_
      exact J62 σ34 u3_2 (m_halves σ34 (Int32.toNatClampNeg ((2 : Int32) * u3_2))) false _ _ _ w (lv_sub hl [0, 1] rfl) (by rw [← e_c3, f_MO_tables_c3, if_pos q54]) hp
    · have hp := hp.2 q54
      refine lv_iconst (v := 1) hx hb d_MO_tables_57 (by decide) ?_
      refine lv_goto (tgt := 62) hx hb d_MO_tables_58 (by decide) ?_
      exact J62 σ34 u3_2 (m_halves σ34 (Int32.toNatClampNeg ((2 : Int32) * u3_2))) true _ _ _ w (lv_sub hl [0, 1] rfl) (by rw [← e_c3, f_MO_tables_c3, if_neg q54]) hp
-- MO_system
def f_MO_system_c5 (z53 : MS) (a1 : Int32) (a2 : Int32) (a3 : Int32) (a4 : Int32)  : MS := z53
def f_MO_system_c4 (z74 : MS) (a1 : Int32) (a2 : Int32) (a3 : Int32) (a4 : Int32)  : MS := z74
def f_MO_system_c3 (z89 : MS × Int32) (a1 : Int32) (a2 : Int32) (a3 : Int32) (a4 : Int32)  : MS := z89.1
def f_MO_system_c2 (z101 : MS) (a1 : Int32) (a2 : Int32) (a3 : Int32) (a4 : Int32)  : MS := z101
def f_MO_system_24 (σ : MS) (a1 : Int32) (a2 : Int32) (a3 : Int32) (a4 : Int32) : MS := if a2 = (47 : Int32) then (σ) else (if a3 = 0 then (f_MO_system_c5 (f_MO_put σ a4 (f_MO_read σ ((a1 >>> ((11 : Int32) &&& 31)) &&& (31 : Int32)))) a1 a2 a3 a4 ) else (if a3 = (4 : Int32) then (f_MO_system_c4 (f_MO_write σ ((a1 >>> ((11 : Int32) &&& 31)) &&& (31 : Int32)) (m_r σ (Int32.toNatClampNeg a4))) a1 a2 a3 a4 ) else (if (16 : Int32) ≤ a3 then (f_MO_system_c2 (f_MO_tables σ (a1 &&& (63 : Int32))) a1 a2 a3 a4 ) else (f_MO_system_c3 (f_MO_raise σ (10 : Int32)) a1 a2 a3 a4 ))))
def f_MO_system_c1 (z19 : MS × Int32) (a1 : Int32) (a2 : Int32) (a3 : Int32) (a4 : Int32)  : MS := z19.1
def f_MO_system (σ : MS) (a1 : Int32) (a2 : Int32) (a3 : Int32) (a4 : Int32) : MS := if (zb (f_MO_isUser σ)) = 0 then (f_MO_system_24 σ a1 a2 a3 a4) else (if (zb (f_MO_isIn σ (28 : Int32))) = 0 then (f_MO_system_c1 (f_MO_raise σ (11 : Int32)) a1 a2 a3 a4 ) else (f_MO_system_24 σ a1 a2 a3 a4))
def P_MO_system_c5 (z53 : MS) (a1 : Int32) (a2 : Int32) (a3 : Int32) (a4 : Int32)  : Prop := True
def P_MO_system_c4 (z74 : MS) (a1 : Int32) (a2 : Int32) (a3 : Int32) (a4 : Int32)  : Prop := True
def P_MO_system_c3 (z89 : MS × Int32) (a1 : Int32) (a2 : Int32) (a3 : Int32) (a4 : Int32)  : Prop := True
def P_MO_system_c2 (z101 : MS) (a1 : Int32) (a2 : Int32) (a3 : Int32) (a4 : Int32)  : Prop := True
def P_MO_system_24 (σ : MS) (a1 : Int32) (a2 : Int32) (a3 : Int32) (a4 : Int32) : Prop := ((a2 = (47 : Int32)) → (True)) ∧ (¬ (a2 = (47 : Int32)) → (((a3 = 0) → (vp_in a4 32 ∧ P_MO_system_c5 (f_MO_put σ a4 (f_MO_read σ ((a1 >>> ((11 : Int32) &&& 31)) &&& (31 : Int32)))) a1 a2 a3 a4 )) ∧ (¬ (a3 = 0) → (((a3 = (4 : Int32)) → (vp_in a4 32 ∧ P_MO_system_c4 (f_MO_write σ ((a1 >>> ((11 : Int32) &&& 31)) &&& (31 : Int32)) (m_r σ (Int32.toNatClampNeg a4))) a1 a2 a3 a4 )) ∧ (¬ (a3 = (4 : Int32)) → ((((16 : Int32) ≤ a3) → (P_MO_tables σ (a1 &&& (63 : Int32)) ∧ P_MO_system_c2 (f_MO_tables σ (a1 &&& (63 : Int32))) a1 a2 a3 a4 )) ∧ (¬ ((16 : Int32) ≤ a3) → (P_MO_system_c3 (f_MO_raise σ (10 : Int32)) a1 a2 a3 a4 ))))))))
def P_MO_system_c1 (z19 : MS × Int32) (a1 : Int32) (a2 : Int32) (a3 : Int32) (a4 : Int32)  : Prop := True
def P_MO_system (σ : MS) (a1 : Int32) (a2 : Int32) (a3 : Int32) (a4 : Int32) : Prop := (((zb (f_MO_isUser σ)) = 0) → (P_MO_system_24 σ a1 a2 a3 a4)) ∧ (¬ ((zb (f_MO_isUser σ)) = 0) → ((((zb (f_MO_isIn σ (28 : Int32))) = 0) → (P_MO_system_c1 (f_MO_raise σ (11 : Int32)) a1 a2 a3 a4 )) ∧ (¬ ((zb (f_MO_isIn σ (28 : Int32))) = 0) → (P_MO_system_24 σ a1 a2 a3 a4))))
theorem d_MO_system_0 : decode b_MO_system 0 = .ok (.aload_n 0, 1) := by decide +kernel
theorem d_MO_system_1 : decode b_MO_system 1 = .ok (.invokevirtual 110, 3) := by decide +kernel
theorem d_MO_system_4 : decode b_MO_system 4 = .ok (.ifCond .eq 20, 3) := by decide +kernel
theorem d_MO_system_7 : decode b_MO_system 7 = .ok (.aload_n 0, 1) := by decide +kernel
theorem d_MO_system_8 : decode b_MO_system 8 = .ok (.bipush 28, 2) := by decide +kernel
theorem d_MO_system_10 : decode b_MO_system 10 = .ok (.invokevirtual 93, 3) := by decide +kernel
theorem d_MO_system_13 : decode b_MO_system 13 = .ok (.ifCond .ne 11, 3) := by decide +kernel
theorem d_MO_system_16 : decode b_MO_system 16 = .ok (.aload_n 0, 1) := by decide +kernel
theorem d_MO_system_17 : decode b_MO_system 17 = .ok (.bipush 11, 2) := by decide +kernel
theorem d_MO_system_19 : decode b_MO_system 19 = .ok (.invokevirtual 196, 3) := by decide +kernel
theorem d_MO_system_22 : decode b_MO_system 22 = .ok (.pop, 1) := by decide +kernel
theorem d_MO_system_23 : decode b_MO_system 23 = .ok (.return_, 1) := by decide +kernel
theorem d_MO_system_24 : decode b_MO_system 24 = .ok (.iload_n 2, 1) := by decide +kernel
theorem d_MO_system_25 : decode b_MO_system 25 = .ok (.bipush 47, 2) := by decide +kernel
theorem d_MO_system_27 : decode b_MO_system 27 = .ok (.if_icmp .ne 4, 3) := by decide +kernel
theorem d_MO_system_30 : decode b_MO_system 30 = .ok (.return_, 1) := by decide +kernel
theorem d_MO_system_31 : decode b_MO_system 31 = .ok (.iload_n 1, 1) := by decide +kernel
theorem d_MO_system_32 : decode b_MO_system 32 = .ok (.bipush 11, 2) := by decide +kernel
theorem d_MO_system_34 : decode b_MO_system 34 = .ok (.ishr, 1) := by decide +kernel
theorem d_MO_system_35 : decode b_MO_system 35 = .ok (.bipush 31, 2) := by decide +kernel
theorem d_MO_system_37 : decode b_MO_system 37 = .ok (.iand, 1) := by decide +kernel
theorem d_MO_system_38 : decode b_MO_system 38 = .ok (.istore 5, 2) := by decide +kernel
theorem d_MO_system_40 : decode b_MO_system 40 = .ok (.iload_n 3, 1) := by decide +kernel
theorem d_MO_system_41 : decode b_MO_system 41 = .ok (.ifCond .ne 18, 3) := by decide +kernel
theorem d_MO_system_44 : decode b_MO_system 44 = .ok (.aload_n 0, 1) := by decide +kernel
theorem d_MO_system_45 : decode b_MO_system 45 = .ok (.iload 4, 2) := by decide +kernel
theorem d_MO_system_47 : decode b_MO_system 47 = .ok (.aload_n 0, 1) := by decide +kernel
theorem d_MO_system_48 : decode b_MO_system 48 = .ok (.iload 5, 2) := by decide +kernel
theorem d_MO_system_50 : decode b_MO_system 50 = .ok (.invokevirtual 81, 3) := by decide +kernel
theorem d_MO_system_53 : decode b_MO_system 53 = .ok (.invokevirtual 78, 3) := by decide +kernel
theorem d_MO_system_56 : decode b_MO_system 56 = .ok (.goto 48, 3) := by decide +kernel
theorem d_MO_system_59 : decode b_MO_system 59 = .ok (.iload_n 3, 1) := by decide +kernel
theorem d_MO_system_60 : decode b_MO_system 60 = .ok (.iconst 4, 1) := by decide +kernel
theorem d_MO_system_61 : decode b_MO_system 61 = .ok (.if_icmp .ne 19, 3) := by decide +kernel
theorem d_MO_system_64 : decode b_MO_system 64 = .ok (.aload_n 0, 1) := by decide +kernel
theorem d_MO_system_65 : decode b_MO_system 65 = .ok (.iload 5, 2) := by decide +kernel
theorem d_MO_system_67 : decode b_MO_system 67 = .ok (.aload_n 0, 1) := by decide +kernel
theorem d_MO_system_68 : decode b_MO_system 68 = .ok (.getfield 14, 3) := by decide +kernel
theorem d_MO_system_71 : decode b_MO_system 71 = .ok (.iload 4, 2) := by decide +kernel
theorem d_MO_system_73 : decode b_MO_system 73 = .ok (.iaload, 1) := by decide +kernel
theorem d_MO_system_74 : decode b_MO_system 74 = .ok (.invokevirtual 64, 3) := by decide +kernel
theorem d_MO_system_77 : decode b_MO_system 77 = .ok (.goto 27, 3) := by decide +kernel
theorem d_MO_system_80 : decode b_MO_system 80 = .ok (.iload_n 3, 1) := by decide +kernel
theorem d_MO_system_81 : decode b_MO_system 81 = .ok (.bipush 16, 2) := by decide +kernel
theorem d_MO_system_83 : decode b_MO_system 83 = .ok (.if_icmp .ge 13, 3) := by decide +kernel
theorem d_MO_system_86 : decode b_MO_system 86 = .ok (.aload_n 0, 1) := by decide +kernel
theorem d_MO_system_87 : decode b_MO_system 87 = .ok (.bipush 10, 2) := by decide +kernel
theorem d_MO_system_89 : decode b_MO_system 89 = .ok (.invokevirtual 196, 3) := by decide +kernel
theorem d_MO_system_92 : decode b_MO_system 92 = .ok (.pop, 1) := by decide +kernel
theorem d_MO_system_93 : decode b_MO_system 93 = .ok (.goto 11, 3) := by decide +kernel
theorem d_MO_system_96 : decode b_MO_system 96 = .ok (.aload_n 0, 1) := by decide +kernel
theorem d_MO_system_97 : decode b_MO_system 97 = .ok (.iload_n 1, 1) := by decide +kernel
theorem d_MO_system_98 : decode b_MO_system 98 = .ok (.bipush 63, 2) := by decide +kernel
theorem d_MO_system_100 : decode b_MO_system 100 = .ok (.iand, 1) := by decide +kernel
theorem d_MO_system_101 : decode b_MO_system 101 = .ok (.invokevirtual 236, 3) := by decide +kernel
theorem d_MO_system_104 : decode b_MO_system 104 = .ok (.return_, 1) := by decide +kernel
set_option maxHeartbeats 4000000 in
set_option maxRecDepth 100000 in
theorem c_MO_system (l : Launch) (E : Ev) (ad : Nat → Nat) (σ : MS) (a1 : Int32) (a2 : Int32) (a3 : Int32) (a4 : Int32) (hp : P_MO_system σ a1 a2 a3 a4) : rC xCl l E (mW E ad) y_MO_system b_MO_system 6 (Option.none : Option Jvm.ClassFile.FieldType) (rmo 3 67) [.ref (ad 0), .int a1, .int a2, .int a3, .int a4] σ (zV (f_MO_system σ a1 a2 a3 a4)) := by
  refine rC.of (by decide) (Nat.le_of_ble_eq_true rfl) ?_
  intro p e s m below meth c A ls hc w hl
  generalize e0 : zV (f_MO_system σ a1 a2 a3 a4) = Z
  have hc : Cx xCl E A p s m ([.ref (ad 0), .int a1, .int a2, .int a3, .int a4] : List Value).toArray meth c b_MO_system 6 (Option.none : Option Jvm.ClassFile.FieldType) "PageMachineModel" := hc
  have hx := hc.1
  have hb := hc.2.1
  have ho := hc.2.2.2.2.2.1
  have hT := hc.2.2.2.2.2.2.1
  have hl : lv_has ls 6 [(0, .ref (ad 0)), (1, .int a1), (2, .int a2), (3, .int a3), (4, .int a4)] := hl
  have J24 : ∀ (H : Heap) (locs : List Loc) (ls : Array Slot), Wd xCl E A s.heap H locs (mW E ad σ) → lv_has ls 6 [(0, .ref (ad 0)), (1, .int a1), (2, .int a2), (3, .int a3), (4, .int a4)] → zV (f_MO_system_24 σ a1 a2 a3 a4) = Z → P_MO_system_24 σ a1 a2 a3 a4 → W p l e (rmo 3 67) s m ([.ref (ad 0), .int a1, .int a2, .int a3, .int a4] : List Value).toArray below meth c H locs 0 0 (MQ below (rQ xCl (mW E ad) E A Z) ([.ref (ad 0), .int a1, .int a2, .int a3, .int a4] : List Value).toArray s 0 0 A) (F0 m 24 ls []) := by
    intro  H locs ls w hl e24 hp
    unfold P_MO_system_24 at hp
    refine lv_iload_n hx hb d_MO_system_24 rfl (lv_at hl 2 rfl) ?_
    refine lv_bipush (v := 47) hx hb d_MO_system_25 (by decide) ?_
    refine lv_icmp_ne (tgt := 31) hx hb d_MO_system_27 (by decide) (fun q27 => ?_) (fun q27 => ?_)
    · have hp := hp.2 q27
      refine lv_iload_n hx hb d_MO_system_31 rfl (lv_at hl 1 rfl) ?_
      refine lv_bipush (v := 11) hx hb d_MO_system_32 (by decide) ?_
      refine lv_ishr hx hb d_MO_system_34 ?_
      refine lv_bipush (v := 31) hx hb d_MO_system_35 (by decide) ?_
      refine lv_iand hx hb d_MO_system_37 ?_
      refine lv_istore (lv' := [(5, .int ((a1 >>> ((11 : Int32) &&& 31)) &&& (31 : Int32))), (0, .ref (ad 0)), (1, .int a1), (2, .int a2), (3, .int a3), (4, .int a4)]) hx hb d_MO_system_38 hl (by decide) rfl (fun ls hl => ?_)
      refine lv_iload_n hx hb d_MO_system_40 rfl (lv_at hl 4 rfl) ?_
      refine lv_if_ne (tgt := 59) hx hb d_MO_system_41 (by decide) (fun q41 => ?_) (fun q41 => ?_)
      · have hp := hp.2 q41
        refine lv_iload_n hx hb d_MO_system_59 rfl (lv_at hl 4 rfl) ?_
        refine lv_iconst (v := 4) hx hb d_MO_system_60 (by decide) ?_
        refine lv_icmp_ne (tgt := 80) hx hb d_MO_system_61 (by decide) (fun q61 => ?_) (fun q61 => ?_)
        · have hp := hp.2 q61
          refine lv_iload_n hx hb d_MO_system_80 rfl (lv_at hl 4 rfl) ?_
          refine lv_bipush (v := 16) hx hb d_MO_system_81 (by decide) ?_
          refine lv_icmp_ge (tgt := 96) hx hb d_MO_system_83 (by decide) (fun q83 => ?_) (fun q83 => ?_)
          · have hp := hp.1 q83
            refine lv_aload_n hx hb d_MO_system_96 rfl (lv_at hl 1 rfl) ?_
            refine lv_iload_n hx hb d_MO_system_97 rfl (lv_at hl 2 rfl) ?_
            refine lv_bipush (v := 63) hx hb d_MO_system_98 (by decide) ?_
            refine lv_iand hx hb d_MO_system_100 ?_
            obtain ⟨hP101, hp⟩ := hp
            refine cVV (rest := []) hc w (c_MO_tables l E ad σ (a1 &&& (63 : Int32)) hP101) kv_MO_tables mw_1136 0 rfl rfl ⟨Nat.le_of_ble_eq_true rfl, Nat.le_of_ble_eq_true rfl⟩ hl.1 rfl (Nat.le_of_ble_eq_true rfl) ⟨Nat.zero_le _, Nat.zero_le _⟩ d_MO_system_101 (fun z101 H locs hs101 w => ?_)
            rw [hs101] at hp
            unfold P_MO_system_c2 at hp
            have e_c2 : zV (f_MO_system_c2 z101 a1 a2 a3 a4 ) = Z := by rw [← e24, f_MO_system_24, if_neg q27, if_neg q41, if_neg q61, if_pos q83, hs101]
            exact rt_v hc w d_MO_system_104 (by rw [← e_c2, f_MO_system_c2] <;> rfl)
          · have hp := hp.2 q83
            refine lv_aload_n hx hb d_MO_system_86 rfl (lv_at hl 1 rfl) ?_
            refine lv_bipush (v := 10) hx hb d_MO_system_87 (by decide) ?_
            refine cVI (rest := []) hc w (c_MO_raise l E ad σ (10 : Int32)) kv_MO_raise mw_1079 0 rfl rfl ⟨Nat.le_of_ble_eq_true rfl, Nat.le_of_ble_eq_true rfl⟩ hl.1 rfl (Nat.le_of_ble_eq_true rfl) ⟨Nat.zero_le _, Nat.zero_le _⟩ d_MO_system_89 (fun z89 H locs hs89 w => ?_)
            rw [hs89] at hp
            unfold P_MO_system_c3 at hp
            have e_c3 : zV (f_MO_system_c3 z89 a1 a2 a3 a4 ) = Z := by rw [← e24, f_MO_system_24, if_neg q27, if_neg q41, if_neg q61, if_neg q83, hs89]
            refine lv_pop hx hb d_MO_system_92 rfl ?_
            refine lv_goto (tgt := 104) hx hb d_MO_system_93 (by decide) ?_
            exact rt_v hc w d_MO_system_104 (by rw [← e_c3, f_MO_system_c3] <;> rfl)
        · have hp := hp.1 q61
          refine lv_aload_n hx hb d_MO_system_64 rfl (lv_at hl 1 rfl) ?_
          refine lv_iload hx hb d_MO_system_65 (lv_at hl 0 rfl) ?_
          refine lv_aload_n hx hb d_MO_system_67 rfl (lv_at hl 1 rfl) ?_
          refine g_MO_r hc w mw_888 d_MO_system_68 ?_
          refine lv_iload hx hb d_MO_system_71 (lv_at hl 5 rfl) ?_
          obtain ⟨hb73, hp⟩ := hp
          refine a_MO_r hc w hb73 d_MO_system_73 ?_
          refine cVV (rest := []) hc w (c_MO_write l E ad σ ((a1 >>> ((11 : Int32) &&& 31)) &&& (31 : Int32)) (m_r σ (Int32.toNatClampNeg a4)) (bd31 _)) kv_MO_write mw_990 0 rfl rfl ⟨Nat.le_of_ble_eq_true rfl, Nat.le_of_ble_eq_true rfl⟩ hl.1 rfl (Nat.le_of_ble_eq_true rfl) ⟨Nat.zero_le _, Nat.zero_le _⟩ d_MO_system_74 (fun z74 H locs hs74 w => ?_)
          rw [hs74] at hp
          unfold P_MO_system_c4 at hp
          have e_c4 : zV (f_MO_system_c4 z74 a1 a2 a3 a4 ) = Z := by rw [← e24, f_MO_system_24, if_neg q27, if_neg q41, if_pos q61, hs74]
          refine lv_goto (tgt := 104) hx hb d_MO_system_77 (by decide) ?_
          exact rt_v hc w d_MO_system_104 (by rw [← e_c4, f_MO_system_c4] <;> rfl)
      · have hp := hp.1 q41
        refine lv_aload_n hx hb d_MO_system_44 rfl (lv_at hl 1 rfl) ?_
        refine lv_iload hx hb d_MO_system_45 (lv_at hl 5 rfl) ?_
        refine lv_aload_n hx hb d_MO_system_47 rfl (lv_at hl 1 rfl) ?_
        refine lv_iload hx hb d_MO_system_48 (lv_at hl 0 rfl) ?_
        refine rVI (rest := [.int a4, .ref (ad 0)]) hc w (c_MO_read l E ad σ ((a1 >>> ((11 : Int32) &&& 31)) &&& (31 : Int32)) (bd31 _)) kv_MO_read mw_1008 0 rfl rfl ⟨Nat.le_of_ble_eq_true rfl, Nat.le_of_ble_eq_true rfl⟩ hl.1 rfl (Nat.le_of_ble_eq_true rfl) ⟨Nat.zero_le _, Nat.zero_le _⟩ d_MO_system_50 (fun H locs w => ?_)
        obtain ⟨hb53, hp⟩ := hp
        refine cVV (rest := []) hc w (c_MO_put l E ad σ a4 (f_MO_read σ ((a1 >>> ((11 : Int32) &&& 31)) &&& (31 : Int32))) hb53) kv_MO_put mw_1000 0 rfl rfl ⟨Nat.le_of_ble_eq_true rfl, Nat.le_of_ble_eq_true rfl⟩ hl.1 rfl (Nat.le_of_ble_eq_true rfl) ⟨Nat.zero_le _, Nat.zero_le _⟩ d_MO_system_53 (fun z53 H locs hs53 w => ?_)
        rw [hs53] at hp
        unfold P_MO_system_c5 at hp
        have e_c5 : zV (f_MO_system_c5 z53 a1 a2 a3 a4 ) = Z := by rw [← e24, f_MO_system_24, if_neg q27, if_pos q41, hs53]
        refine lv_goto (tgt := 104) hx hb d_MO_system_56 (by decide) ?_
        exact rt_v hc w d_MO_system_104 (by rw [← e_c5, f_MO_system_c5] <;> rfl)
    · have hp := hp.1 q27
      exact rt_v hc w d_MO_system_30 (by rw [← e24, f_MO_system_24, if_pos q27] <;> rfl)
  unfold P_MO_system at hp
  refine lv_aload_n hx hb d_MO_system_0 rfl (lv_at hl 0 rfl) ?_
  refine rVZ (rest := []) hc w (c_MO_isUser l E ad σ) kv_MO_isUser mw_1055 0 rfl rfl ⟨Nat.le_of_ble_eq_true rfl, Nat.le_of_ble_eq_true rfl⟩ hl.1 rfl (Nat.le_of_ble_eq_true rfl) ⟨Nat.zero_le _, Nat.zero_le _⟩ d_MO_system_1 (fun H locs w => ?_)
  refine lv_if_eq (tgt := 24) hx hb d_MO_system_4 (by decide) (fun q4 => ?_) (fun q4 => ?_)
  · have hp := hp.1 q4
    exact J24  _ _ _ w (lv_sub hl [0, 1, 2, 3, 4] rfl) (by rw [← e0, f_MO_system, if_pos q4]) hp
  · have hp := hp.2 q4
    refine lv_aload_n hx hb d_MO_system_7 rfl (lv_at hl 0 rfl) ?_
    refine lv_bipush (v := 28) hx hb d_MO_system_8 (by decide) ?_
    refine rVZ (rest := []) hc w (c_MO_isIn l E ad σ (28 : Int32)) kv_MO_isIn mw_1028 0 rfl rfl ⟨Nat.le_of_ble_eq_true rfl, Nat.le_of_ble_eq_true rfl⟩ hl.1 rfl (Nat.le_of_ble_eq_true rfl) ⟨Nat.zero_le _, Nat.zero_le _⟩ d_MO_system_10 (fun H locs w => ?_)
    refine lv_if_ne (tgt := 24) hx hb d_MO_system_13 (by decide) (fun q13 => ?_) (fun q13 => ?_)
    · have hp := hp.2 q13
      exact J24  _ _ _ w (lv_sub hl [0, 1, 2, 3, 4] rfl) (by rw [← e0, f_MO_system, if_neg q4, if_neg q13]) hp
    · have hp := hp.1 q13
      refine lv_aload_n hx hb d_MO_system_16 rfl (lv_at hl 0 rfl) ?_
      refine lv_bipush (v := 11) hx hb d_MO_system_17 (by decide) ?_
      refine cVI (rest := []) hc w (c_MO_raise l E ad σ (11 : Int32)) kv_MO_raise mw_1079 0 rfl rfl ⟨Nat.le_of_ble_eq_true rfl, Nat.le_of_ble_eq_true rfl⟩ hl.1 rfl (Nat.le_of_ble_eq_true rfl) ⟨Nat.zero_le _, Nat.zero_le _⟩ d_MO_system_19 (fun z19 H locs hs19 w => ?_)
      rw [hs19] at hp
      unfold P_MO_system_c1 at hp
      have e_c1 : zV (f_MO_system_c1 z19 a1 a2 a3 a4 ) = Z := by rw [← e0, f_MO_system, if_neg q4, if_pos q13, hs19]
      refine lv_pop hx hb d_MO_system_22 rfl ?_
      exact rt_v hc w d_MO_system_23 (by rw [← e_c1, f_MO_system_c1] <;> rfl)
-- MO_load
def f_MO_load_c2 (σ56 : MS) (a1 : Int32) (a2 : Int32) (a3 : Int32) (a4 : Int64)  : MS := σ56
def f_MO_load_c1 (z45 : MS) (a1 : Int32) (a2 : Int32) (a3 : Int32) (a4 : Int64)  : MS := if a1 = (48 : Int32) then (f_MO_load_c2 (ms_link z45 (1 : Int32)) a1 a2 a3 a4 ) else (z45)
def f_MO_load_41 (σ : MS) (a1 : Int32) (a2 : Int32) (a3 : Int32) (a4 : Int64) (v41_6 : Int32) : MS := f_MO_load_c1 (f_MO_put σ a2 v41_6) a1 a2 a3 a4 
def f_MO_load_25 (σ : MS) (a1 : Int32) (a2 : Int32) (a3 : Int32) (a4 : Int64) (v25_6 : Int32) : MS := if a1 = (33 : Int32) then (f_MO_load_41 σ a1 a2 a3 a4 ((v25_6 <<< ((16 : Int32) &&& 31)) >>> ((16 : Int32) &&& 31))) else (f_MO_load_41 σ a1 a2 a3 a4 v25_6)
def f_MO_load (σ : MS) (a1 : Int32) (a2 : Int32) (a3 : Int32) (a4 : Int64) : MS := if a1 = (32 : Int32) then (f_MO_load_25 σ a1 a2 a3 a4 (((f_MO_bytesAt σ a4 a3) <<< ((24 : Int32) &&& 31)) >>> ((24 : Int32) &&& 31))) else (f_MO_load_25 σ a1 a2 a3 a4 (f_MO_bytesAt σ a4 a3))
def P_MO_load_c2 (σ56 : MS) (a1 : Int32) (a2 : Int32) (a3 : Int32) (a4 : Int64)  : Prop := True
def P_MO_load_c1 (z45 : MS) (a1 : Int32) (a2 : Int32) (a3 : Int32) (a4 : Int64)  : Prop := ((a1 = (48 : Int32)) → (P_MO_load_c2 (ms_link z45 (1 : Int32)) a1 a2 a3 a4 )) ∧ (¬ (a1 = (48 : Int32)) → (True))
def P_MO_load_41 (σ : MS) (a1 : Int32) (a2 : Int32) (a3 : Int32) (a4 : Int64) (v41_6 : Int32) : Prop := vp_in a2 32 ∧ P_MO_load_c1 (f_MO_put σ a2 v41_6) a1 a2 a3 a4 
def P_MO_load_25 (σ : MS) (a1 : Int32) (a2 : Int32) (a3 : Int32) (a4 : Int64) (v25_6 : Int32) : Prop := ((a1 = (33 : Int32)) → (P_MO_load_41 σ a1 a2 a3 a4 ((v25_6 <<< ((16 : Int32) &&& 31)) >>> ((16 : Int32) &&& 31)))) ∧ (¬ (a1 = (33 : Int32)) → (P_MO_load_41 σ a1 a2 a3 a4 v25_6))
def P_MO_load (σ : MS) (a1 : Int32) (a2 : Int32) (a3 : Int32) (a4 : Int64) : Prop := P_MO_bytesAt σ a4 a3 ∧ ((a1 = (32 : Int32)) → (P_MO_load_25 σ a1 a2 a3 a4 (((f_MO_bytesAt σ a4 a3) <<< ((24 : Int32) &&& 31)) >>> ((24 : Int32) &&& 31)))) ∧ (¬ (a1 = (32 : Int32)) → (P_MO_load_25 σ a1 a2 a3 a4 (f_MO_bytesAt σ a4 a3)))
theorem d_MO_load_0 : decode b_MO_load 0 = .ok (.aload_n 0, 1) := by decide +kernel
theorem d_MO_load_1 : decode b_MO_load 1 = .ok (.lload 4, 2) := by decide +kernel
theorem d_MO_load_3 : decode b_MO_load 3 = .ok (.iload_n 3, 1) := by decide +kernel
theorem d_MO_load_4 : decode b_MO_load 4 = .ok (.invokevirtual 256, 3) := by decide +kernel
theorem d_MO_load_7 : decode b_MO_load 7 = .ok (.istore 6, 2) := by decide +kernel
theorem d_MO_load_9 : decode b_MO_load 9 = .ok (.iload_n 1, 1) := by decide +kernel
theorem d_MO_load_10 : decode b_MO_load 10 = .ok (.bipush 32, 2) := by decide +kernel
theorem d_MO_load_12 : decode b_MO_load 12 = .ok (.if_icmp .ne 13, 3) := by decide +kernel
theorem d_MO_load_15 : decode b_MO_load 15 = .ok (.iload 6, 2) := by decide +kernel
theorem d_MO_load_17 : decode b_MO_load 17 = .ok (.bipush 24, 2) := by decide +kernel
theorem d_MO_load_19 : decode b_MO_load 19 = .ok (.ishl, 1) := by decide +kernel
theorem d_MO_load_20 : decode b_MO_load 20 = .ok (.bipush 24, 2) := by decide +kernel
theorem d_MO_load_22 : decode b_MO_load 22 = .ok (.ishr, 1) := by decide +kernel
theorem d_MO_load_23 : decode b_MO_load 23 = .ok (.istore 6, 2) := by decide +kernel
theorem d_MO_load_25 : decode b_MO_load 25 = .ok (.iload_n 1, 1) := by decide +kernel
theorem d_MO_load_26 : decode b_MO_load 26 = .ok (.bipush 33, 2) := by decide +kernel
theorem d_MO_load_28 : decode b_MO_load 28 = .ok (.if_icmp .ne 13, 3) := by decide +kernel
theorem d_MO_load_31 : decode b_MO_load 31 = .ok (.iload 6, 2) := by decide +kernel
theorem d_MO_load_33 : decode b_MO_load 33 = .ok (.bipush 16, 2) := by decide +kernel
theorem d_MO_load_35 : decode b_MO_load 35 = .ok (.ishl, 1) := by decide +kernel
theorem d_MO_load_36 : decode b_MO_load 36 = .ok (.bipush 16, 2) := by decide +kernel
theorem d_MO_load_38 : decode b_MO_load 38 = .ok (.ishr, 1) := by decide +kernel
theorem d_MO_load_39 : decode b_MO_load 39 = .ok (.istore 6, 2) := by decide +kernel
theorem d_MO_load_41 : decode b_MO_load 41 = .ok (.aload_n 0, 1) := by decide +kernel
theorem d_MO_load_42 : decode b_MO_load 42 = .ok (.iload_n 2, 1) := by decide +kernel
theorem d_MO_load_43 : decode b_MO_load 43 = .ok (.iload 6, 2) := by decide +kernel
theorem d_MO_load_45 : decode b_MO_load 45 = .ok (.invokevirtual 78, 3) := by decide +kernel
theorem d_MO_load_48 : decode b_MO_load 48 = .ok (.iload_n 1, 1) := by decide +kernel
theorem d_MO_load_49 : decode b_MO_load 49 = .ok (.bipush 48, 2) := by decide +kernel
theorem d_MO_load_51 : decode b_MO_load 51 = .ok (.if_icmp .ne 8, 3) := by decide +kernel
theorem d_MO_load_54 : decode b_MO_load 54 = .ok (.aload_n 0, 1) := by decide +kernel
theorem d_MO_load_55 : decode b_MO_load 55 = .ok (.iconst 1, 1) := by decide +kernel
theorem d_MO_load_56 : decode b_MO_load 56 = .ok (.putfield 242, 3) := by decide +kernel
theorem d_MO_load_59 : decode b_MO_load 59 = .ok (.return_, 1) := by decide +kernel
set_option maxHeartbeats 4000000 in
set_option maxRecDepth 100000 in
theorem c_MO_load (l : Launch) (E : Ev) (ad : Nat → Nat) (σ : MS) (a1 : Int32) (a2 : Int32) (a3 : Int32) (a4 : Int64) (hp : P_MO_load σ a1 a2 a3 a4) : rC xCl l E (mW E ad) y_MO_load b_MO_load 7 (Option.none : Option Jvm.ClassFile.FieldType) (rmo 1 25) [.ref (ad 0), .int a1, .int a2, .int a3, .long a4] σ (zV (f_MO_load σ a1 a2 a3 a4)) := by
  refine rC.of (by decide) (Nat.le_of_ble_eq_true rfl) ?_
  intro p e s m below meth c A ls hc w hl
  generalize e0 : zV (f_MO_load σ a1 a2 a3 a4) = Z
  have hc : Cx xCl E A p s m ([.ref (ad 0), .int a1, .int a2, .int a3, .long a4] : List Value).toArray meth c b_MO_load 7 (Option.none : Option Jvm.ClassFile.FieldType) "PageMachineModel" := hc
  have hx := hc.1
  have hb := hc.2.1
  have ho := hc.2.2.2.2.2.1
  have hT := hc.2.2.2.2.2.2.1
  have hl : lv_has ls 7 [(0, .ref (ad 0)), (1, .int a1), (2, .int a2), (3, .int a3), (4, .long a4)] := hl
  have J41 : ∀ (v41_6 : Int32) (H : Heap) (locs : List Loc) (ls : Array Slot), Wd xCl E A s.heap H locs (mW E ad σ) → lv_has ls 7 [(6, .int v41_6), (0, .ref (ad 0)), (1, .int a1), (2, .int a2)] → zV (f_MO_load_41 σ a1 a2 a3 a4 v41_6) = Z → P_MO_load_41 σ a1 a2 a3 a4 v41_6 → W p l e (rmo 1 25) s m ([.ref (ad 0), .int a1, .int a2, .int a3, .long a4] : List Value).toArray below meth c H locs 0 0 (MQ below (rQ xCl (mW E ad) E A Z) ([.ref (ad 0), .int a1, .int a2, .int a3, .long a4] : List Value).toArray s 0 0 A) (F0 m 41 ls []) := by
    intro v41_6 H locs ls w hl e41 hp
    unfold P_MO_load_41 at hp
    refine lv_aload_n hx hb d_MO_load_41 rfl (lv_at hl 1 rfl) ?_
    refine lv_iload_n hx hb d_MO_load_42 rfl (lv_at hl 3 rfl) ?_
    refine lv_iload hx hb d_MO_load_43 (lv_at hl 0 rfl) ?_
    obtain ⟨hb45, hp⟩ := hp
    refine cVV (rest := []) hc w (c_MO_put l E ad σ a2 v41_6 hb45) kv_MO_put mw_1000 0 rfl rfl ⟨Nat.le_of_ble_eq_true rfl, Nat.le_of_ble_eq_true rfl⟩ hl.1 rfl (Nat.le_of_ble_eq_true rfl) ⟨Nat.zero_le _, Nat.zero_le _⟩ d_MO_load_45 (fun z45 H locs hs45 w => ?_)
    rw [hs45] at hp
    unfold P_MO_load_c1 at hp
    have e_c1 : zV (f_MO_load_c1 z45 a1 a2 a3 a4 ) = Z := by rw [← e41, f_MO_load_41, hs45]
    refine lv_iload_n hx hb d_MO_load_48 rfl (lv_at hl 2 rfl) ?_
    refine lv_bipush (v := 48) hx hb d_MO_load_49 (by decide) ?_
    refine lv_icmp_ne (tgt := 59) hx hb d_MO_load_51 (by decide) (fun q51 => ?_) (fun q51 => ?_)
    · have hp := hp.2 q51
      exact rt_v hc w d_MO_load_59 (by rw [← e_c1, f_MO_load_c1, if_neg q51] <;> rfl)
    · have hp := hp.1 q51
      refine lv_aload_n hx hb d_MO_load_54 rfl (lv_at hl 1 rfl) ?_
      refine lv_iconst (v := 1) hx hb d_MO_load_55 (by decide) ?_
      refine p_MO_link hc w mw_893 d_MO_load_56 (fun σ56 H locs hs56 w => ?_)
      rw [hs56] at hp
      unfold P_MO_load_c2 at hp
      have e_c2 : zV (f_MO_load_c2 σ56 a1 a2 a3 a4 ) = Z := by rw [← e_c1, f_MO_load_c1, if_pos q51, hs56]
      exact rt_v hc w d_MO_load_59 (by rw [← e_c2, f_MO_load_c2] <;> rfl)
  have J25 : ∀ (v25_6 : Int32) (H : Heap) (locs : List Loc) (ls : Array Slot), Wd xCl E A s.heap H locs (mW E ad σ) → lv_has ls 7 [(6, .int v25_6), (0, .ref (ad 0)), (1, .int a1), (2, .int a2)] → zV (f_MO_load_25 σ a1 a2 a3 a4 v25_6) = Z → P_MO_load_25 σ a1 a2 a3 a4 v25_6 → W p l e (rmo 1 25) s m ([.ref (ad 0), .int a1, .int a2, .int a3, .long a4] : List Value).toArray below meth c H locs 0 0 (MQ below (rQ xCl (mW E ad) E A Z) ([.ref (ad 0), .int a1, .int a2, .int a3, .long a4] : List Value).toArray s 0 0 A) (F0 m 25 ls []) := by
    intro v25_6 H locs ls w hl e25 hp
    unfold P_MO_load_25 at hp
    refine lv_iload_n hx hb d_MO_load_25 rfl (lv_at hl 2 rfl) ?_
    refine lv_bipush (v := 33) hx hb d_MO_load_26 (by decide) ?_
    refine lv_icmp_ne (tgt := 41) hx hb d_MO_load_28 (by decide) (fun q28 => ?_) (fun q28 => ?_)
    · have hp := hp.2 q28
      exact J41 v25_6 _ _ _ w (lv_sub hl [0, 1, 2, 3] rfl) (by rw [← e25, f_MO_load_25, if_neg q28]) hp
    · have hp := hp.1 q28
      refine lv_iload hx hb d_MO_load_31 (lv_at hl 0 rfl) ?_
      refine lv_bipush (v := 16) hx hb d_MO_load_33 (by decide) ?_
      refine lv_ishl hx hb d_MO_load_35 ?_
      refine lv_bipush (v := 16) hx hb d_MO_load_36 (by decide) ?_
      refine lv_ishr hx hb d_MO_load_38 ?_
      refine lv_istore (lv' := [(6, .int ((v25_6 <<< ((16 : Int32) &&& 31)) >>> ((16 : Int32) &&& 31))), (0, .ref (ad 0)), (1, .int a1), (2, .int a2)]) hx hb d_MO_load_39 hl (by decide) rfl (fun ls hl => ?_)
      exact J41 ((v25_6 <<< ((16 : Int32) &&& 31)) >>> ((16 : Int32) &&& 31)) _ _ _ w (lv_sub hl [0, 1, 2, 3] rfl) (by rw [← e25, f_MO_load_25, if_pos q28]) hp
  unfold P_MO_load at hp
  refine lv_aload_n hx hb d_MO_load_0 rfl (lv_at hl 0 rfl) ?_
  refine lv_lload hx hb d_MO_load_1 (lv_at hl 4 rfl) ?_
  refine lv_iload_n hx hb d_MO_load_3 rfl (lv_at hl 3 rfl) ?_
  obtain ⟨hP4, hp⟩ := hp
  refine rVI (rest := []) hc w (c_MO_bytesAt l E ad σ a4 a3 hP4) kv_MO_bytesAt mw_1167 0 rfl rfl ⟨Nat.le_of_ble_eq_true rfl, Nat.le_of_ble_eq_true rfl⟩ hl.1 rfl (Nat.le_of_ble_eq_true rfl) ⟨Nat.zero_le _, Nat.zero_le _⟩ d_MO_load_4 (fun H locs w => ?_)
  refine lv_istore (lv' := [(6, .int (f_MO_bytesAt σ a4 a3)), (0, .ref (ad 0)), (1, .int a1), (2, .int a2), (3, .int a3), (4, .long a4)]) hx hb d_MO_load_7 hl (by decide) rfl (fun ls hl => ?_)
  refine lv_iload_n hx hb d_MO_load_9 rfl (lv_at hl 2 rfl) ?_
  refine lv_bipush (v := 32) hx hb d_MO_load_10 (by decide) ?_
  refine lv_icmp_ne (tgt := 25) hx hb d_MO_load_12 (by decide) (fun q12 => ?_) (fun q12 => ?_)
  · have hp := hp.2 q12
    exact J25 (f_MO_bytesAt σ a4 a3) _ _ _ w (lv_sub hl [0, 1, 2, 3] rfl) (by rw [← e0, f_MO_load, if_neg q12]) hp
  · have hp := hp.1 q12
    refine lv_iload hx hb d_MO_load_15 (lv_at hl 0 rfl) ?_
    refine lv_bipush (v := 24) hx hb d_MO_load_17 (by decide) ?_
    refine lv_ishl hx hb d_MO_load_19 ?_
    refine lv_bipush (v := 24) hx hb d_MO_load_20 (by decide) ?_
    refine lv_ishr hx hb d_MO_load_22 ?_
    refine lv_istore (lv' := [(6, .int (((f_MO_bytesAt σ a4 a3) <<< ((24 : Int32) &&& 31)) >>> ((24 : Int32) &&& 31))), (0, .ref (ad 0)), (1, .int a1), (2, .int a2), (3, .int a3), (4, .long a4)]) hx hb d_MO_load_23 hl (by decide) rfl (fun ls hl => ?_)
    exact J25 (((f_MO_bytesAt σ a4 a3) <<< ((24 : Int32) &&& 31)) >>> ((24 : Int32) &&& 31)) _ _ _ w (lv_sub hl [0, 1, 2, 3] rfl) (by rw [← e0, f_MO_load, if_pos q12]) hp
-- MO_keep
def f_MO_keep_c3 (σ44 : MS) (a1 : Int32) (a2 : Int32) (a3 : Int32) (a4 : Int64)  : MS := σ44
def f_MO_keep_c2 (z39 : MS) (a1 : Int32) (a2 : Int32) (a3 : Int32) (a4 : Int64)  : MS := f_MO_keep_c3 (ms_link z39 (0 : Int32)) a1 a2 a3 a4 
def f_MO_keep_27 (σ27 : MS) (a1 : Int32) (a2 : Int32) (a3 : Int32) (a4 : Int64) : MS := if a1 = (56 : Int32) then (f_MO_keep_c2 (f_MO_put σ27 a2 (m_link σ27)) a1 a2 a3 a4 ) else (σ27)
def f_MO_keep_c1 (z24 : MS) (a1 : Int32) (a2 : Int32) (a3 : Int32) (a4 : Int64)  : MS := f_MO_keep_27 z24 a1 a2 a3 a4
def f_MO_keep_14 (σ : MS) (a1 : Int32) (a2 : Int32) (a3 : Int32) (a4 : Int64) : MS := f_MO_keep_c1 (f_MO_store σ a4 a3 (m_r σ (Int32.toNatClampNeg a2))) a1 a2 a3 a4 
def f_MO_keep (σ : MS) (a1 : Int32) (a2 : Int32) (a3 : Int32) (a4 : Int64) : MS := if a1 = (56 : Int32) then (if (m_link σ) = (1 : Int32) then (f_MO_keep_14 σ a1 a2 a3 a4) else (f_MO_keep_27 σ a1 a2 a3 a4)) else (f_MO_keep_14 σ a1 a2 a3 a4)
def P_MO_keep_c3 (σ44 : MS) (a1 : Int32) (a2 : Int32) (a3 : Int32) (a4 : Int64)  : Prop := True
def P_MO_keep_c2 (z39 : MS) (a1 : Int32) (a2 : Int32) (a3 : Int32) (a4 : Int64)  : Prop := P_MO_keep_c3 (ms_link z39 (0 : Int32)) a1 a2 a3 a4 
def P_MO_keep_27 (σ27 : MS) (a1 : Int32) (a2 : Int32) (a3 : Int32) (a4 : Int64) : Prop := ((a1 = (56 : Int32)) → (vp_in a2 32 ∧ P_MO_keep_c2 (f_MO_put σ27 a2 (m_link σ27)) a1 a2 a3 a4 )) ∧ (¬ (a1 = (56 : Int32)) → (True))
def P_MO_keep_c1 (z24 : MS) (a1 : Int32) (a2 : Int32) (a3 : Int32) (a4 : Int64)  : Prop := P_MO_keep_27 z24 a1 a2 a3 a4
def P_MO_keep_14 (σ : MS) (a1 : Int32) (a2 : Int32) (a3 : Int32) (a4 : Int64) : Prop := vp_in a2 32 ∧ P_MO_store σ a4 a3 (m_r σ (Int32.toNatClampNeg a2)) ∧ P_MO_keep_c1 (f_MO_store σ a4 a3 (m_r σ (Int32.toNatClampNeg a2))) a1 a2 a3 a4 
def P_MO_keep (σ : MS) (a1 : Int32) (a2 : Int32) (a3 : Int32) (a4 : Int64) : Prop := ((a1 = (56 : Int32)) → ((((m_link σ) = (1 : Int32)) → (P_MO_keep_14 σ a1 a2 a3 a4)) ∧ (¬ ((m_link σ) = (1 : Int32)) → (P_MO_keep_27 σ a1 a2 a3 a4)))) ∧ (¬ (a1 = (56 : Int32)) → (P_MO_keep_14 σ a1 a2 a3 a4))
theorem d_MO_keep_0 : decode b_MO_keep 0 = .ok (.iload_n 1, 1) := by decide +kernel
theorem d_MO_keep_1 : decode b_MO_keep 1 = .ok (.bipush 56, 2) := by decide +kernel
theorem d_MO_keep_3 : decode b_MO_keep 3 = .ok (.if_icmp .ne 11, 3) := by decide +kernel
theorem d_MO_keep_6 : decode b_MO_keep 6 = .ok (.aload_n 0, 1) := by decide +kernel
theorem d_MO_keep_7 : decode b_MO_keep 7 = .ok (.getfield 242, 3) := by decide +kernel
theorem d_MO_keep_10 : decode b_MO_keep 10 = .ok (.iconst 1, 1) := by decide +kernel
theorem d_MO_keep_11 : decode b_MO_keep 11 = .ok (.if_icmp .ne 16, 3) := by decide +kernel
theorem d_MO_keep_14 : decode b_MO_keep 14 = .ok (.aload_n 0, 1) := by decide +kernel
theorem d_MO_keep_15 : decode b_MO_keep 15 = .ok (.lload 4, 2) := by decide +kernel
theorem d_MO_keep_17 : decode b_MO_keep 17 = .ok (.iload_n 3, 1) := by decide +kernel
theorem d_MO_keep_18 : decode b_MO_keep 18 = .ok (.aload_n 0, 1) := by decide +kernel
theorem d_MO_keep_19 : decode b_MO_keep 19 = .ok (.getfield 14, 3) := by decide +kernel
theorem d_MO_keep_22 : decode b_MO_keep 22 = .ok (.iload_n 2, 1) := by decide +kernel
theorem d_MO_keep_23 : decode b_MO_keep 23 = .ok (.iaload, 1) := by decide +kernel
theorem d_MO_keep_24 : decode b_MO_keep 24 = .ok (.invokevirtual 260, 3) := by decide +kernel
theorem d_MO_keep_27 : decode b_MO_keep 27 = .ok (.iload_n 1, 1) := by decide +kernel
theorem d_MO_keep_28 : decode b_MO_keep 28 = .ok (.bipush 56, 2) := by decide +kernel
theorem d_MO_keep_30 : decode b_MO_keep 30 = .ok (.if_icmp .ne 17, 3) := by decide +kernel
theorem d_MO_keep_33 : decode b_MO_keep 33 = .ok (.aload_n 0, 1) := by decide +kernel
theorem d_MO_keep_34 : decode b_MO_keep 34 = .ok (.iload_n 2, 1) := by decide +kernel
theorem d_MO_keep_35 : decode b_MO_keep 35 = .ok (.aload_n 0, 1) := by decide +kernel
theorem d_MO_keep_36 : decode b_MO_keep 36 = .ok (.getfield 242, 3) := by decide +kernel
theorem d_MO_keep_39 : decode b_MO_keep 39 = .ok (.invokevirtual 78, 3) := by decide +kernel
theorem d_MO_keep_42 : decode b_MO_keep 42 = .ok (.aload_n 0, 1) := by decide +kernel
theorem d_MO_keep_43 : decode b_MO_keep 43 = .ok (.iconst 0, 1) := by decide +kernel
theorem d_MO_keep_44 : decode b_MO_keep 44 = .ok (.putfield 242, 3) := by decide +kernel
theorem d_MO_keep_47 : decode b_MO_keep 47 = .ok (.return_, 1) := by decide +kernel
set_option maxHeartbeats 4000000 in
set_option maxRecDepth 100000 in
theorem c_MO_keep (l : Launch) (E : Ev) (ad : Nat → Nat) (σ : MS) (a1 : Int32) (a2 : Int32) (a3 : Int32) (a4 : Int64) (hp : P_MO_keep σ a1 a2 a3 a4) : rC xCl l E (mW E ad) y_MO_keep b_MO_keep 6 (Option.none : Option Jvm.ClassFile.FieldType) (rmo 1 27) [.ref (ad 0), .int a1, .int a2, .int a3, .long a4] σ (zV (f_MO_keep σ a1 a2 a3 a4)) := by
  refine rC.of (by decide) (Nat.le_of_ble_eq_true rfl) ?_
  intro p e s m below meth c A ls hc w hl
  generalize e0 : zV (f_MO_keep σ a1 a2 a3 a4) = Z
  have hc : Cx xCl E A p s m ([.ref (ad 0), .int a1, .int a2, .int a3, .long a4] : List Value).toArray meth c b_MO_keep 6 (Option.none : Option Jvm.ClassFile.FieldType) "PageMachineModel" := hc
  have hx := hc.1
  have hb := hc.2.1
  have ho := hc.2.2.2.2.2.1
  have hT := hc.2.2.2.2.2.2.1
  have hl : lv_has ls 6 [(0, .ref (ad 0)), (1, .int a1), (2, .int a2), (3, .int a3), (4, .long a4)] := hl
  have J27 : ∀ (σ27 : MS) (H : Heap) (locs : List Loc) (ls : Array Slot), Wd xCl E A s.heap H locs (mW E ad σ27) → lv_has ls 6 [(0, .ref (ad 0)), (1, .int a1), (2, .int a2)] → zV (f_MO_keep_27 σ27 a1 a2 a3 a4) = Z → P_MO_keep_27 σ27 a1 a2 a3 a4 → W p l e (rmo 1 27) s m ([.ref (ad 0), .int a1, .int a2, .int a3, .long a4] : List Value).toArray below meth c H locs 0 0 (MQ below (rQ xCl (mW E ad) E A Z) ([.ref (ad 0), .int a1, .int a2, .int a3, .long a4] : List Value).toArray s 0 0 A) (F0 m 27 ls []) := by
    intro σ27 H locs ls w hl e27 hp
    unfold P_MO_keep_27 at hp
    refine lv_iload_n hx hb d_MO_keep_27 rfl (lv_at hl 1 rfl) ?_
    refine lv_bipush (v := 56) hx hb d_MO_keep_28 (by decide) ?_
    refine lv_icmp_ne (tgt := 47) hx hb d_MO_keep_30 (by decide) (fun q30 => ?_) (fun q30 => ?_)
    · have hp := hp.2 q30
      exact rt_v hc w d_MO_keep_47 (by rw [← e27, f_MO_keep_27, if_neg q30] <;> rfl)
    · have hp := hp.1 q30
      refine lv_aload_n hx hb d_MO_keep_33 rfl (lv_at hl 0 rfl) ?_
      refine lv_iload_n hx hb d_MO_keep_34 rfl (lv_at hl 2 rfl) ?_
      refine lv_aload_n hx hb d_MO_keep_35 rfl (lv_at hl 0 rfl) ?_
      refine g_MO_link hc w mw_893 d_MO_keep_36 ?_
      obtain ⟨hb39, hp⟩ := hp
      refine cVV (rest := []) hc w (c_MO_put l E ad σ27 a2 (m_link σ27) hb39) kv_MO_put mw_1000 0 rfl rfl ⟨Nat.le_of_ble_eq_true rfl, Nat.le_of_ble_eq_true rfl⟩ hl.1 rfl (Nat.le_of_ble_eq_true rfl) ⟨Nat.zero_le _, Nat.zero_le _⟩ d_MO_keep_39 (fun z39 H locs hs39 w => ?_)
      rw [hs39] at hp
      unfold P_MO_keep_c2 at hp
      have e_c2 : zV (f_MO_keep_c2 z39 a1 a2 a3 a4 ) = Z := by rw [← e27, f_MO_keep_27, if_pos q30, hs39]
      refine lv_aload_n hx hb d_MO_keep_42 rfl (lv_at hl 0 rfl) ?_
      refine lv_iconst (v := 0) hx hb d_MO_keep_43 (by decide) ?_
      refine p_MO_link hc w mw_893 d_MO_keep_44 (fun σ44 H locs hs44 w => ?_)
      rw [hs44] at hp
      unfold P_MO_keep_c3 at hp
      have e_c3 : zV (f_MO_keep_c3 σ44 a1 a2 a3 a4 ) = Z := by rw [← e_c2, f_MO_keep_c2, hs44]
      exact rt_v hc w d_MO_keep_47 (by rw [← e_c3, f_MO_keep_c3] <;> rfl)
  have J14 : ∀ (H : Heap) (locs : List Loc) (ls : Array Slot), Wd xCl E A s.heap H locs (mW E ad σ) → lv_has ls 6 [(0, .ref (ad 0)), (1, .int a1), (2, .int a2), (3, .int a3), (4, .long a4)] → zV (f_MO_keep_14 σ a1 a2 a3 a4) = Z → P_MO_keep_14 σ a1 a2 a3 a4 → W p l e (rmo 1 27) s m ([.ref (ad 0), .int a1, .int a2, .int a3, .long a4] : List Value).toArray below meth c H locs 0 0 (MQ below (rQ xCl (mW E ad) E A Z) ([.ref (ad 0), .int a1, .int a2, .int a3, .long a4] : List Value).toArray s 0 0 A) (F0 m 14 ls []) := by
    intro  H locs ls w hl e14 hp
    unfold P_MO_keep_14 at hp
    refine lv_aload_n hx hb d_MO_keep_14 rfl (lv_at hl 0 rfl) ?_
    refine lv_lload hx hb d_MO_keep_15 (lv_at hl 4 rfl) ?_
    refine lv_iload_n hx hb d_MO_keep_17 rfl (lv_at hl 3 rfl) ?_
    refine lv_aload_n hx hb d_MO_keep_18 rfl (lv_at hl 0 rfl) ?_
    refine g_MO_r hc w mw_888 d_MO_keep_19 ?_
    refine lv_iload_n hx hb d_MO_keep_22 rfl (lv_at hl 2 rfl) ?_
    obtain ⟨hb23, hp⟩ := hp
    refine a_MO_r hc w hb23 d_MO_keep_23 ?_
    obtain ⟨hP24, hp⟩ := hp
    refine cVV (rest := []) hc w (c_MO_store l E ad σ a4 a3 (m_r σ (Int32.toNatClampNeg a2)) hP24) kv_MO_store mw_1163 0 rfl rfl ⟨Nat.le_of_ble_eq_true rfl, Nat.le_of_ble_eq_true rfl⟩ hl.1 rfl (Nat.le_of_ble_eq_true rfl) ⟨Nat.zero_le _, Nat.zero_le _⟩ d_MO_keep_24 (fun z24 H locs hs24 w => ?_)
    rw [hs24] at hp
    unfold P_MO_keep_c1 at hp
    have e_c1 : zV (f_MO_keep_c1 z24 a1 a2 a3 a4 ) = Z := by rw [← e14, f_MO_keep_14, hs24]
    exact J27 z24 _ _ _ w (lv_sub hl [0, 1, 2] rfl) (by rw [← e_c1, f_MO_keep_c1]) hp
  unfold P_MO_keep at hp
  refine lv_iload_n hx hb d_MO_keep_0 rfl (lv_at hl 1 rfl) ?_
  refine lv_bipush (v := 56) hx hb d_MO_keep_1 (by decide) ?_
  refine lv_icmp_ne (tgt := 14) hx hb d_MO_keep_3 (by decide) (fun q3 => ?_) (fun q3 => ?_)
  · have hp := hp.2 q3
    exact J14  _ _ _ w (lv_sub hl [0, 1, 2, 3, 4] rfl) (by rw [← e0, f_MO_keep, if_neg q3]) hp
  · have hp := hp.1 q3
    refine lv_aload_n hx hb d_MO_keep_6 rfl (lv_at hl 0 rfl) ?_
    refine g_MO_link hc w mw_893 d_MO_keep_7 ?_
    refine lv_iconst (v := 1) hx hb d_MO_keep_10 (by decide) ?_
    refine lv_icmp_ne (tgt := 27) hx hb d_MO_keep_11 (by decide) (fun q11 => ?_) (fun q11 => ?_)
    · have hp := hp.2 q11
      exact J27 σ _ _ _ w (lv_sub hl [0, 1, 2] rfl) (by rw [← e0, f_MO_keep, if_pos q3, if_neg q11]) hp
    · have hp := hp.1 q11
      exact J14  _ _ _ w (lv_sub hl [0, 1, 2, 3, 4] rfl) (by rw [← e0, f_MO_keep, if_pos q3, if_pos q11]) hp
-- MO_partly
def f_MO_partly_c2 (z191 : MS) (a1 : Int32) (a2 : Int32) (a3 : Int64)  : MS := z191
def f_MO_partly_191 (σ : MS) (a1 : Int32) (a2 : Int32) (a3 : Int64) (w191_2 : Int32) : MS := f_MO_partly_c2 (f_MO_put σ a2 w191_2) a1 a2 a3 
def f_MO_partly_c1 (z126 : MS) (a1 : Int32) (a2 : Int32) (a3 : Int64)  : MS := z126
def f_MO_partly_126 (σ : MS) (a1 : Int32) (a2 : Int32) (a3 : Int64) (w126_1 : Int64) (w126_2 : Int32) (w126_3 : Int32) : MS := f_MO_partly_c1 (f_MO_store σ w126_1 w126_2 w126_3) a1 a2 a3 
def f_MO_partly_87 (σ : MS) (a1 : Int32) (a2 : Int32) (a3 : Int64) (v87_10 : Int32) (v87_8 : Int64) (v87_7 : Int32) (v87_6 : Bool) (w87_0 : Int32) : MS := if a1 ≤ (39 : Int32) then (if (zb v87_6) = 0 then (f_MO_partly_191 σ a1 a2 a3 (((m_r σ (Int32.toNatClampNeg a2)) &&& (w87_0 ^^^ (-1 : Int32))) ||| ((f_MO_bytesAt σ v87_8 v87_7) &&& w87_0))) else (f_MO_partly_191 σ a1 a2 a3 (((m_r σ (Int32.toNatClampNeg a2)) &&& ((w87_0 <<< (v87_10 &&& 31)) ^^^ (-1 : Int32))) ||| ((f_MO_bytesAt σ v87_8 v87_7) <<< (v87_10 &&& 31))))) else (if (zb v87_6) = 0 then (f_MO_partly_126 σ a1 a2 a3 v87_8 v87_7 ((m_r σ (Int32.toNatClampNeg a2)) &&& w87_0)) else (f_MO_partly_126 σ a1 a2 a3 v87_8 v87_7 ((Int32.toUInt32 (m_r σ (Int32.toNatClampNeg a2)) >>> (Int32.toUInt32 v87_10 &&& Int32.toUInt32 31)).toInt32)))
def f_MO_partly_57 (σ : MS) (a1 : Int32) (a2 : Int32) (a3 : Int64) (v57_7 : Int32) (v57_6 : Bool) (w57_0 : Int64) : MS := if v57_7 = (4 : Int32) then (f_MO_partly_87 σ a1 a2 a3 ((8 : Int32) * ((4 : Int32) - v57_7)) w57_0 v57_7 v57_6 (-1 : Int32)) else (f_MO_partly_87 σ a1 a2 a3 ((8 : Int32) * ((4 : Int32) - v57_7)) w57_0 v57_7 v57_6 (((1 : Int32) <<< (((8 : Int32) * v57_7) &&& 31)) - (1 : Int32)))
def f_MO_partly_41 (σ : MS) (a1 : Int32) (a2 : Int32) (a3 : Int64) (v41_6 : Bool) (v41_5 : Int32) (w41_0 : Int32) : MS := if (zb v41_6) = 0 then (f_MO_partly_57 σ a1 a2 a3 w41_0 v41_6 (a3 - (Int32.toInt64 v41_5))) else (f_MO_partly_57 σ a1 a2 a3 w41_0 v41_6 a3)
def f_MO_partly_23 (σ : MS) (a1 : Int32) (a2 : Int32) (a3 : Int64) (v23_5 : Int32) (w23_0 : Bool) : MS := if (zb w23_0) = 0 then (f_MO_partly_41 σ a1 a2 a3 w23_0 v23_5 (v23_5 + (1 : Int32))) else (f_MO_partly_41 σ a1 a2 a3 w23_0 v23_5 ((4 : Int32) - v23_5))
def f_MO_partly_18 (σ : MS) (a1 : Int32) (a2 : Int32) (a3 : Int64) (v18_5 : Int32) : MS := f_MO_partly_23 σ a1 a2 a3 v18_5 true
def f_MO_partly (σ : MS) (a1 : Int32) (a2 : Int32) (a3 : Int64) : MS := if a1 = (34 : Int32) then (f_MO_partly_18 σ a1 a2 a3 ((Int64.toInt32 a3) - (Int64.toInt32 a3) / (4 : Int32) * (4 : Int32))) else (if a1 = (42 : Int32) then (f_MO_partly_18 σ a1 a2 a3 ((Int64.toInt32 a3) - (Int64.toInt32 a3) / (4 : Int32) * (4 : Int32))) else (f_MO_partly_23 σ a1 a2 a3 ((Int64.toInt32 a3) - (Int64.toInt32 a3) / (4 : Int32) * (4 : Int32)) false))
def P_MO_partly_c2 (z191 : MS) (a1 : Int32) (a2 : Int32) (a3 : Int64)  : Prop := True
def P_MO_partly_191 (σ : MS) (a1 : Int32) (a2 : Int32) (a3 : Int64) (w191_2 : Int32) : Prop := vp_in a2 32 ∧ P_MO_partly_c2 (f_MO_put σ a2 w191_2) a1 a2 a3 
def P_MO_partly_c1 (z126 : MS) (a1 : Int32) (a2 : Int32) (a3 : Int64)  : Prop := True
def P_MO_partly_126 (σ : MS) (a1 : Int32) (a2 : Int32) (a3 : Int64) (w126_1 : Int64) (w126_2 : Int32) (w126_3 : Int32) : Prop := P_MO_store σ w126_1 w126_2 w126_3 ∧ P_MO_partly_c1 (f_MO_store σ w126_1 w126_2 w126_3) a1 a2 a3 
def P_MO_partly_87 (σ : MS) (a1 : Int32) (a2 : Int32) (a3 : Int64) (v87_10 : Int32) (v87_8 : Int64) (v87_7 : Int32) (v87_6 : Bool) (w87_0 : Int32) : Prop := ((a1 ≤ (39 : Int32)) → ((((zb v87_6) = 0) → (vp_in a2 32 ∧ P_MO_bytesAt σ v87_8 v87_7 ∧ P_MO_partly_191 σ a1 a2 a3 (((m_r σ (Int32.toNatClampNeg a2)) &&& (w87_0 ^^^ (-1 : Int32))) ||| ((f_MO_bytesAt σ v87_8 v87_7) &&& w87_0)))) ∧ (¬ ((zb v87_6) = 0) → (vp_in a2 32 ∧ P_MO_bytesAt σ v87_8 v87_7 ∧ P_MO_partly_191 σ a1 a2 a3 (((m_r σ (Int32.toNatClampNeg a2)) &&& ((w87_0 <<< (v87_10 &&& 31)) ^^^ (-1 : Int32))) ||| ((f_MO_bytesAt σ v87_8 v87_7) <<< (v87_10 &&& 31))))))) ∧ (¬ (a1 ≤ (39 : Int32)) → ((((zb v87_6) = 0) → (vp_in a2 32 ∧ P_MO_partly_126 σ a1 a2 a3 v87_8 v87_7 ((m_r σ (Int32.toNatClampNeg a2)) &&& w87_0))) ∧ (¬ ((zb v87_6) = 0) → (vp_in a2 32 ∧ P_MO_partly_126 σ a1 a2 a3 v87_8 v87_7 ((Int32.toUInt32 (m_r σ (Int32.toNatClampNeg a2)) >>> (Int32.toUInt32 v87_10 &&& Int32.toUInt32 31)).toInt32)))))
def P_MO_partly_57 (σ : MS) (a1 : Int32) (a2 : Int32) (a3 : Int64) (v57_7 : Int32) (v57_6 : Bool) (w57_0 : Int64) : Prop := ((v57_7 = (4 : Int32)) → (P_MO_partly_87 σ a1 a2 a3 ((8 : Int32) * ((4 : Int32) - v57_7)) w57_0 v57_7 v57_6 (-1 : Int32))) ∧ (¬ (v57_7 = (4 : Int32)) → (P_MO_partly_87 σ a1 a2 a3 ((8 : Int32) * ((4 : Int32) - v57_7)) w57_0 v57_7 v57_6 (((1 : Int32) <<< (((8 : Int32) * v57_7) &&& 31)) - (1 : Int32))))
def P_MO_partly_41 (σ : MS) (a1 : Int32) (a2 : Int32) (a3 : Int64) (v41_6 : Bool) (v41_5 : Int32) (w41_0 : Int32) : Prop := (((zb v41_6) = 0) → (P_MO_partly_57 σ a1 a2 a3 w41_0 v41_6 (a3 - (Int32.toInt64 v41_5)))) ∧ (¬ ((zb v41_6) = 0) → (P_MO_partly_57 σ a1 a2 a3 w41_0 v41_6 a3))
def P_MO_partly_23 (σ : MS) (a1 : Int32) (a2 : Int32) (a3 : Int64) (v23_5 : Int32) (w23_0 : Bool) : Prop := (((zb w23_0) = 0) → (P_MO_partly_41 σ a1 a2 a3 w23_0 v23_5 (v23_5 + (1 : Int32)))) ∧ (¬ ((zb w23_0) = 0) → (P_MO_partly_41 σ a1 a2 a3 w23_0 v23_5 ((4 : Int32) - v23_5)))
def P_MO_partly_18 (σ : MS) (a1 : Int32) (a2 : Int32) (a3 : Int64) (v18_5 : Int32) : Prop := P_MO_partly_23 σ a1 a2 a3 v18_5 true
def P_MO_partly (σ : MS) (a1 : Int32) (a2 : Int32) (a3 : Int64) : Prop := ((a1 = (34 : Int32)) → (P_MO_partly_18 σ a1 a2 a3 ((Int64.toInt32 a3) - (Int64.toInt32 a3) / (4 : Int32) * (4 : Int32)))) ∧ (¬ (a1 = (34 : Int32)) → (((a1 = (42 : Int32)) → (P_MO_partly_18 σ a1 a2 a3 ((Int64.toInt32 a3) - (Int64.toInt32 a3) / (4 : Int32) * (4 : Int32)))) ∧ (¬ (a1 = (42 : Int32)) → (P_MO_partly_23 σ a1 a2 a3 ((Int64.toInt32 a3) - (Int64.toInt32 a3) / (4 : Int32) * (4 : Int32)) false))))
theorem d_MO_partly_0 : decode b_MO_partly 0 = .ok (.lload_n 3, 1) := by decide +kernel
theorem d_MO_partly_1 : decode b_MO_partly 1 = .ok (.l2i, 1) := by decide +kernel
theorem d_MO_partly_2 : decode b_MO_partly 2 = .ok (.iconst 4, 1) := by decide +kernel
theorem d_MO_partly_3 : decode b_MO_partly 3 = .ok (.irem, 1) := by decide +kernel
theorem d_MO_partly_4 : decode b_MO_partly 4 = .ok (.istore 5, 2) := by decide +kernel
theorem d_MO_partly_6 : decode b_MO_partly 6 = .ok (.iload_n 1, 1) := by decide +kernel
theorem d_MO_partly_7 : decode b_MO_partly 7 = .ok (.bipush 34, 2) := by decide +kernel
theorem d_MO_partly_9 : decode b_MO_partly 9 = .ok (.if_icmp .eq 9, 3) := by decide +kernel
theorem d_MO_partly_12 : decode b_MO_partly 12 = .ok (.iload_n 1, 1) := by decide +kernel
theorem d_MO_partly_13 : decode b_MO_partly 13 = .ok (.bipush 42, 2) := by decide +kernel
theorem d_MO_partly_15 : decode b_MO_partly 15 = .ok (.if_icmp .ne 7, 3) := by decide +kernel
theorem d_MO_partly_18 : decode b_MO_partly 18 = .ok (.iconst 1, 1) := by decide +kernel
theorem d_MO_partly_19 : decode b_MO_partly 19 = .ok (.goto 4, 3) := by decide +kernel
theorem d_MO_partly_22 : decode b_MO_partly 22 = .ok (.iconst 0, 1) := by decide +kernel
theorem d_MO_partly_23 : decode b_MO_partly 23 = .ok (.istore 6, 2) := by decide +kernel
theorem d_MO_partly_25 : decode b_MO_partly 25 = .ok (.iload 6, 2) := by decide +kernel
theorem d_MO_partly_27 : decode b_MO_partly 27 = .ok (.ifCond .eq 10, 3) := by decide +kernel
theorem d_MO_partly_30 : decode b_MO_partly 30 = .ok (.iconst 4, 1) := by decide +kernel
theorem d_MO_partly_31 : decode b_MO_partly 31 = .ok (.iload 5, 2) := by decide +kernel
theorem d_MO_partly_33 : decode b_MO_partly 33 = .ok (.isub, 1) := by decide +kernel
theorem d_MO_partly_34 : decode b_MO_partly 34 = .ok (.goto 7, 3) := by decide +kernel
theorem d_MO_partly_37 : decode b_MO_partly 37 = .ok (.iload 5, 2) := by decide +kernel
theorem d_MO_partly_39 : decode b_MO_partly 39 = .ok (.iconst 1, 1) := by decide +kernel
theorem d_MO_partly_40 : decode b_MO_partly 40 = .ok (.iadd, 1) := by decide +kernel
theorem d_MO_partly_41 : decode b_MO_partly 41 = .ok (.istore 7, 2) := by decide +kernel
theorem d_MO_partly_43 : decode b_MO_partly 43 = .ok (.iload 6, 2) := by decide +kernel
theorem d_MO_partly_45 : decode b_MO_partly 45 = .ok (.ifCond .eq 7, 3) := by decide +kernel
theorem d_MO_partly_48 : decode b_MO_partly 48 = .ok (.lload_n 3, 1) := by decide +kernel
theorem d_MO_partly_49 : decode b_MO_partly 49 = .ok (.goto 8, 3) := by decide +kernel
theorem d_MO_partly_52 : decode b_MO_partly 52 = .ok (.lload_n 3, 1) := by decide +kernel
theorem d_MO_partly_53 : decode b_MO_partly 53 = .ok (.iload 5, 2) := by decide +kernel
theorem d_MO_partly_55 : decode b_MO_partly 55 = .ok (.i2l, 1) := by decide +kernel
theorem d_MO_partly_56 : decode b_MO_partly 56 = .ok (.lsub, 1) := by decide +kernel
theorem d_MO_partly_57 : decode b_MO_partly 57 = .ok (.lstore 8, 2) := by decide +kernel
theorem d_MO_partly_59 : decode b_MO_partly 59 = .ok (.bipush 8, 2) := by decide +kernel
theorem d_MO_partly_61 : decode b_MO_partly 61 = .ok (.iconst 4, 1) := by decide +kernel
theorem d_MO_partly_62 : decode b_MO_partly 62 = .ok (.iload 7, 2) := by decide +kernel
theorem d_MO_partly_64 : decode b_MO_partly 64 = .ok (.isub, 1) := by decide +kernel
theorem d_MO_partly_65 : decode b_MO_partly 65 = .ok (.imul, 1) := by decide +kernel
theorem d_MO_partly_66 : decode b_MO_partly 66 = .ok (.istore 10, 2) := by decide +kernel
theorem d_MO_partly_68 : decode b_MO_partly 68 = .ok (.iload 7, 2) := by decide +kernel
theorem d_MO_partly_70 : decode b_MO_partly 70 = .ok (.iconst 4, 1) := by decide +kernel
theorem d_MO_partly_71 : decode b_MO_partly 71 = .ok (.if_icmp .ne 7, 3) := by decide +kernel
theorem d_MO_partly_74 : decode b_MO_partly 74 = .ok (.iconst (-1), 1) := by decide +kernel
theorem d_MO_partly_75 : decode b_MO_partly 75 = .ok (.goto 12, 3) := by decide +kernel
theorem d_MO_partly_78 : decode b_MO_partly 78 = .ok (.iconst 1, 1) := by decide +kernel
theorem d_MO_partly_79 : decode b_MO_partly 79 = .ok (.bipush 8, 2) := by decide +kernel
theorem d_MO_partly_81 : decode b_MO_partly 81 = .ok (.iload 7, 2) := by decide +kernel
theorem d_MO_partly_83 : decode b_MO_partly 83 = .ok (.imul, 1) := by decide +kernel
theorem d_MO_partly_84 : decode b_MO_partly 84 = .ok (.ishl, 1) := by decide +kernel
theorem d_MO_partly_85 : decode b_MO_partly 85 = .ok (.iconst 1, 1) := by decide +kernel
theorem d_MO_partly_86 : decode b_MO_partly 86 = .ok (.isub, 1) := by decide +kernel
theorem d_MO_partly_87 : decode b_MO_partly 87 = .ok (.istore 11, 2) := by decide +kernel
theorem d_MO_partly_89 : decode b_MO_partly 89 = .ok (.iload_n 1, 1) := by decide +kernel
theorem d_MO_partly_90 : decode b_MO_partly 90 = .ok (.bipush 39, 2) := by decide +kernel
theorem d_MO_partly_92 : decode b_MO_partly 92 = .ok (.if_icmp .le 40, 3) := by decide +kernel
theorem d_MO_partly_95 : decode b_MO_partly 95 = .ok (.aload_n 0, 1) := by decide +kernel
theorem d_MO_partly_96 : decode b_MO_partly 96 = .ok (.lload 8, 2) := by decide +kernel
theorem d_MO_partly_98 : decode b_MO_partly 98 = .ok (.iload 7, 2) := by decide +kernel
theorem d_MO_partly_100 : decode b_MO_partly 100 = .ok (.iload 6, 2) := by decide +kernel
theorem d_MO_partly_102 : decode b_MO_partly 102 = .ok (.ifCond .eq 15, 3) := by decide +kernel
theorem d_MO_partly_105 : decode b_MO_partly 105 = .ok (.aload_n 0, 1) := by decide +kernel
theorem d_MO_partly_106 : decode b_MO_partly 106 = .ok (.getfield 14, 3) := by decide +kernel
theorem d_MO_partly_109 : decode b_MO_partly 109 = .ok (.iload_n 2, 1) := by decide +kernel
theorem d_MO_partly_110 : decode b_MO_partly 110 = .ok (.iaload, 1) := by decide +kernel
theorem d_MO_partly_111 : decode b_MO_partly 111 = .ok (.iload 10, 2) := by decide +kernel
theorem d_MO_partly_113 : decode b_MO_partly 113 = .ok (.iushr, 1) := by decide +kernel
theorem d_MO_partly_114 : decode b_MO_partly 114 = .ok (.goto 12, 3) := by decide +kernel
theorem d_MO_partly_117 : decode b_MO_partly 117 = .ok (.aload_n 0, 1) := by decide +kernel
theorem d_MO_partly_118 : decode b_MO_partly 118 = .ok (.getfield 14, 3) := by decide +kernel
theorem d_MO_partly_121 : decode b_MO_partly 121 = .ok (.iload_n 2, 1) := by decide +kernel
theorem d_MO_partly_122 : decode b_MO_partly 122 = .ok (.iaload, 1) := by decide +kernel
theorem d_MO_partly_123 : decode b_MO_partly 123 = .ok (.iload 11, 2) := by decide +kernel
theorem d_MO_partly_125 : decode b_MO_partly 125 = .ok (.iand, 1) := by decide +kernel
theorem d_MO_partly_126 : decode b_MO_partly 126 = .ok (.invokevirtual 260, 3) := by decide +kernel
theorem d_MO_partly_129 : decode b_MO_partly 129 = .ok (.goto 65, 3) := by decide +kernel
theorem d_MO_partly_132 : decode b_MO_partly 132 = .ok (.aload_n 0, 1) := by decide +kernel
theorem d_MO_partly_133 : decode b_MO_partly 133 = .ok (.iload_n 2, 1) := by decide +kernel
theorem d_MO_partly_134 : decode b_MO_partly 134 = .ok (.iload 6, 2) := by decide +kernel
theorem d_MO_partly_136 : decode b_MO_partly 136 = .ok (.ifCond .eq 32, 3) := by decide +kernel
theorem d_MO_partly_139 : decode b_MO_partly 139 = .ok (.aload_n 0, 1) := by decide +kernel
theorem d_MO_partly_140 : decode b_MO_partly 140 = .ok (.getfield 14, 3) := by decide +kernel
theorem d_MO_partly_143 : decode b_MO_partly 143 = .ok (.iload_n 2, 1) := by decide +kernel
theorem d_MO_partly_144 : decode b_MO_partly 144 = .ok (.iaload, 1) := by decide +kernel
theorem d_MO_partly_145 : decode b_MO_partly 145 = .ok (.iload 11, 2) := by decide +kernel
theorem d_MO_partly_147 : decode b_MO_partly 147 = .ok (.iload 10, 2) := by decide +kernel
theorem d_MO_partly_149 : decode b_MO_partly 149 = .ok (.ishl, 1) := by decide +kernel
theorem d_MO_partly_150 : decode b_MO_partly 150 = .ok (.iconst (-1), 1) := by decide +kernel
theorem d_MO_partly_151 : decode b_MO_partly 151 = .ok (.ixor, 1) := by decide +kernel
theorem d_MO_partly_152 : decode b_MO_partly 152 = .ok (.iand, 1) := by decide +kernel
theorem d_MO_partly_153 : decode b_MO_partly 153 = .ok (.aload_n 0, 1) := by decide +kernel
theorem d_MO_partly_154 : decode b_MO_partly 154 = .ok (.lload 8, 2) := by decide +kernel
theorem d_MO_partly_156 : decode b_MO_partly 156 = .ok (.iload 7, 2) := by decide +kernel
theorem d_MO_partly_158 : decode b_MO_partly 158 = .ok (.invokevirtual 256, 3) := by decide +kernel
theorem d_MO_partly_161 : decode b_MO_partly 161 = .ok (.iload 10, 2) := by decide +kernel
theorem d_MO_partly_163 : decode b_MO_partly 163 = .ok (.ishl, 1) := by decide +kernel
theorem d_MO_partly_164 : decode b_MO_partly 164 = .ok (.ior, 1) := by decide +kernel
theorem d_MO_partly_165 : decode b_MO_partly 165 = .ok (.goto 26, 3) := by decide +kernel
theorem d_MO_partly_168 : decode b_MO_partly 168 = .ok (.aload_n 0, 1) := by decide +kernel
theorem d_MO_partly_169 : decode b_MO_partly 169 = .ok (.getfield 14, 3) := by decide +kernel
theorem d_MO_partly_172 : decode b_MO_partly 172 = .ok (.iload_n 2, 1) := by decide +kernel
theorem d_MO_partly_173 : decode b_MO_partly 173 = .ok (.iaload, 1) := by decide +kernel
theorem d_MO_partly_174 : decode b_MO_partly 174 = .ok (.iload 11, 2) := by decide +kernel
theorem d_MO_partly_176 : decode b_MO_partly 176 = .ok (.iconst (-1), 1) := by decide +kernel
theorem d_MO_partly_177 : decode b_MO_partly 177 = .ok (.ixor, 1) := by decide +kernel
theorem d_MO_partly_178 : decode b_MO_partly 178 = .ok (.iand, 1) := by decide +kernel
theorem d_MO_partly_179 : decode b_MO_partly 179 = .ok (.aload_n 0, 1) := by decide +kernel
theorem d_MO_partly_180 : decode b_MO_partly 180 = .ok (.lload 8, 2) := by decide +kernel
theorem d_MO_partly_182 : decode b_MO_partly 182 = .ok (.iload 7, 2) := by decide +kernel
theorem d_MO_partly_184 : decode b_MO_partly 184 = .ok (.invokevirtual 256, 3) := by decide +kernel
theorem d_MO_partly_187 : decode b_MO_partly 187 = .ok (.iload 11, 2) := by decide +kernel
theorem d_MO_partly_189 : decode b_MO_partly 189 = .ok (.iand, 1) := by decide +kernel
theorem d_MO_partly_190 : decode b_MO_partly 190 = .ok (.ior, 1) := by decide +kernel
theorem d_MO_partly_191 : decode b_MO_partly 191 = .ok (.invokevirtual 78, 3) := by decide +kernel
theorem d_MO_partly_194 : decode b_MO_partly 194 = .ok (.return_, 1) := by decide +kernel
set_option maxHeartbeats 4000000 in
set_option maxRecDepth 100000 in
theorem c_MO_partly (l : Launch) (E : Ev) (ad : Nat → Nat) (σ : MS) (a1 : Int32) (a2 : Int32) (a3 : Int64) (hp : P_MO_partly σ a1 a2 a3) : rC xCl l E (mW E ad) y_MO_partly b_MO_partly 12 (Option.none : Option Jvm.ClassFile.FieldType) (rmo 1 27) [.ref (ad 0), .int a1, .int a2, .long a3] σ (zV (f_MO_partly σ a1 a2 a3)) := by
  refine rC.of (by decide) (Nat.le_of_ble_eq_true rfl) ?_
  intro p e s m below meth c A ls hc w hl
  generalize e0 : zV (f_MO_partly σ a1 a2 a3) = Z
  have hc : Cx xCl E A p s m ([.ref (ad 0), .int a1, .int a2, .long a3] : List Value).toArray meth c b_MO_partly 12 (Option.none : Option Jvm.ClassFile.FieldType) "PageMachineModel" := hc
  have hx := hc.1
  have hb := hc.2.1
  have ho := hc.2.2.2.2.2.1
  have hT := hc.2.2.2.2.2.2.1
  have hl : lv_has ls 12 [(0, .ref (ad 0)), (1, .int a1), (2, .int a2), (3, .long a3)] := hl
  have J191 : ∀ (w191_2 : Int32) (H : Heap) (locs : List Loc) (ls : Array Slot), Wd xCl E A s.heap H locs (mW E ad σ) → lv_has ls 12 [] → zV (f_MO_partly_191 σ a1 a2 a3 w191_2) = Z → P_MO_partly_191 σ a1 a2 a3 w191_2 → W p l e (rmo 1 27) s m ([.ref (ad 0), .int a1, .int a2, .long a3] : List Value).toArray below meth c H locs 0 0 (MQ below (rQ xCl (mW E ad) E A Z) ([.ref (ad 0), .int a1, .int a2, .long a3] : List Value).toArray s 0 0 A) (F0 m 191 ls [.int w191_2, .int a2, .ref (ad 0)]) := by
    intro w191_2 H locs ls w hl e191 hp
    unfold P_MO_partly_191 at hp
    obtain ⟨hb191, hp⟩ := hp
    refine cVV (rest := []) hc w (c_MO_put l E ad σ a2 w191_2 hb191) kv_MO_put mw_1000 0 rfl rfl ⟨Nat.le_of_ble_eq_true rfl, Nat.le_of_ble_eq_true rfl⟩ hl.1 rfl (Nat.le_of_ble_eq_true rfl) ⟨Nat.zero_le _, Nat.zero_le _⟩ d_MO_partly_191 (fun z191 H locs hs191 w => ?_)
    rw [hs191] at hp
    unfold P_MO_partly_c2 at hp
    have e_c2 : zV (f_MO_partly_c2 z191 a1 a2 a3 ) = Z := by rw [← e191, f_MO_partly_191, hs191]
    exact rt_v hc w d_MO_partly_194 (by rw [← e_c2, f_MO_partly_c2] <;> rfl)
  have J126 : ∀ (w126_1 : Int64) (w126_2 : Int32) (w126_3 : Int32) (H : Heap) (locs : List Loc) (ls : Array Slot), Wd xCl E A s.heap H locs (mW E ad σ) → lv_has ls 12 [] → zV (f_MO_partly_126 σ a1 a2 a3 w126_1 w126_2 w126_3) = Z → P_MO_partly_126 σ a1 a2 a3 w126_1 w126_2 w126_3 → W p l e (rmo 1 27) s m ([.ref (ad 0), .int a1, .int a2, .long a3] : List Value).toArray below meth c H locs 0 0 (MQ below (rQ xCl (mW E ad) E A Z) ([.ref (ad 0), .int a1, .int a2, .long a3] : List Value).toArray s 0 0 A) (F0 m 126 ls [.int w126_3, .int w126_2, .long w126_1, .ref (ad 0)]) := by
    intro w126_1 w126_2 w126_3 H locs ls w hl e126 hp
    unfold P_MO_partly_126 at hp
    obtain ⟨hP126, hp⟩ := hp
    refine cVV (rest := []) hc w (c_MO_store l E ad σ w126_1 w126_2 w126_3 hP126) kv_MO_store mw_1163 0 rfl rfl ⟨Nat.le_of_ble_eq_true rfl, Nat.le_of_ble_eq_true rfl⟩ hl.1 rfl (Nat.le_of_ble_eq_true rfl) ⟨Nat.zero_le _, Nat.zero_le _⟩ d_MO_partly_126 (fun z126 H locs hs126 w => ?_)
    rw [hs126] at hp
    unfold P_MO_partly_c1 at hp
    have e_c1 : zV (f_MO_partly_c1 z126 a1 a2 a3 ) = Z := by rw [← e126, f_MO_partly_126, hs126]
    refine lv_goto (tgt := 194) hx hb d_MO_partly_129 (by decide) ?_
    exact rt_v hc w d_MO_partly_194 (by rw [← e_c1, f_MO_partly_c1] <;> rfl)
  have J87 : ∀ (v87_10 : Int32) (v87_8 : Int64) (v87_7 : Int32) (v87_6 : Bool) (w87_0 : Int32) (H : Heap) (locs : List Loc) (ls : Array Slot), Wd xCl E A s.heap H locs (mW E ad σ) → lv_has ls 12 [(10, .int v87_10), (8, .long v87_8), (7, .int v87_7), (6, .int (zb v87_6)), (0, .ref (ad 0)), (1, .int a1), (2, .int a2)] → zV (f_MO_partly_87 σ a1 a2 a3 v87_10 v87_8 v87_7 v87_6 w87_0) = Z → P_MO_partly_87 σ a1 a2 a3 v87_10 v87_8 v87_7 v87_6 w87_0 → W p l e (rmo 1 27) s m ([.ref (ad 0), .int a1, .int a2, .long a3] : List Value).toArray below meth c H locs 0 0 (MQ below (rQ xCl (mW E ad) E A Z) ([.ref (ad 0), .int a1, .int a2, .long a3] : List Value).toArray s 0 0 A) (F0 m 87 ls [.int w87_0]) := by
    intro v87_10 v87_8 v87_7 v87_6 w87_0 H locs ls w hl e87 hp
    unfold P_MO_partly_87 at hp
    refine lv_istore (lv' := [(11, .int w87_0), (10, .int v87_10), (8, .long v87_8), (7, .int v87_7), (6, .int (zb v87_6)), (0, .ref (ad 0)), (1, .int a1), (2, .int a2)]) hx hb d_MO_partly_87 hl (by decide) rfl (fun ls hl => ?_)
    refine lv_iload_n hx hb d_MO_partly_89 rfl (lv_at hl 6 rfl) ?_
    refine lv_bipush (v := 39) hx hb d_MO_partly_90 (by decide) ?_
    refine lv_icmp_le (tgt := 132) hx hb d_MO_partly_92 (by decide) (fun q92 => ?_) (fun q92 => ?_)
    · have hp := hp.1 q92
      refine lv_aload_n hx hb d_MO_partly_132 rfl (lv_at hl 5 rfl) ?_
      refine lv_iload_n hx hb d_MO_partly_133 rfl (lv_at hl 7 rfl) ?_
      refine lv_iload hx hb d_MO_partly_134 (lv_at hl 4 rfl) ?_
      refine lv_if_eq (tgt := 168) hx hb d_MO_partly_136 (by decide) (fun q136 => ?_) (fun q136 => ?_)
      · have hp := hp.1 q136
        refine lv_aload_n hx hb d_MO_partly_168 rfl (lv_at hl 5 rfl) ?_
        refine g_MO_r hc w mw_888 d_MO_partly_169 ?_
        refine lv_iload_n hx hb d_MO_partly_172 rfl (lv_at hl 7 rfl) ?_
        obtain ⟨hb173, hp⟩ := hp
        refine a_MO_r hc w hb173 d_MO_partly_173 ?_
        refine lv_iload hx hb d_MO_partly_174 (lv_at hl 0 rfl) ?_
        refine lv_iconst (v := -1) hx hb d_MO_partly_176 (by decide) ?_
        refine lv_ixor hx hb d_MO_partly_177 ?_
        refine lv_iand hx hb d_MO_partly_178 ?_
        refine lv_aload_n hx hb d_MO_partly_179 rfl (lv_at hl 5 rfl) ?_
        refine lv_lload hx hb d_MO_partly_180 (lv_at hl 2 rfl) ?_
        refine lv_iload hx hb d_MO_partly_182 (lv_at hl 3 rfl) ?_
        obtain ⟨hP184, hp⟩ := hp
        refine rVI (rest := [.int ((m_r σ (Int32.toNatClampNeg a2)) &&& (w87_0 ^^^ (-1 : Int32))), .int a2, .ref (ad 0)]) hc w (c_MO_bytesAt l E ad σ v87_8 v87_7 hP184) kv_MO_bytesAt mw_1167 0 rfl rfl ⟨Nat.le_of_ble_eq_true rfl, Nat.le_of_ble_eq_true rfl⟩ hl.1 rfl (Nat.le_of_ble_eq_true rfl) ⟨Nat.zero_le _, Nat.zero_le _⟩ d_MO_partly_184 (fun H locs w => ?_)
        refine lv_iload hx hb d_MO_partly_187 (lv_at hl 0 rfl) ?_
        refine lv_iand hx hb d_MO_partly_189 ?_
        refine lv_ior hx hb d_MO_partly_190 ?_
        exact J191 (((m_r σ (Int32.toNatClampNeg a2)) &&& (w87_0 ^^^ (-1 : Int32))) ||| ((f_MO_bytesAt σ v87_8 v87_7) &&& w87_0)) _ _ _ w (lv_sub hl [] rfl) (by rw [← e87, f_MO_partly_87, if_pos q92, if_pos q136]) hp
      · have hp := hp.2 q136
        refine lv_aload_n hx hb d_MO_partly_139 rfl (lv_at hl 5 rfl) ?_
        refine g_MO_r hc w mw_888 d_MO_partly_140 ?_
        refine lv_iload_n hx hb d_MO_partly_143 rfl (lv_at hl 7 rfl) ?_
        obtain ⟨hb144, hp⟩ := hp
        refine a_MO_r hc w hb144 d_MO_partly_144 ?_
        refine lv_iload hx hb d_MO_partly_145 (lv_at hl 0 rfl) ?_
        refine lv_iload hx hb d_MO_partly_147 (lv_at hl 1 rfl) ?_
        refine lv_ishl hx hb d_MO_partly_149 ?_
        refine lv_iconst (v := -1) hx hb d_MO_partly_150 (by decide) ?_
        refine lv_ixor hx hb d_MO_partly_151 ?_
        refine lv_iand hx hb d_MO_partly_152 ?_
        refine lv_aload_n hx hb d_MO_partly_153 rfl (lv_at hl 5 rfl) ?_
        refine lv_lload hx hb d_MO_partly_154 (lv_at hl 2 rfl) ?_
        refine lv_iload hx hb d_MO_partly_156 (lv_at hl 3 rfl) ?_
        obtain ⟨hP158, hp⟩ := hp
        refine rVI (rest := [.int ((m_r σ (Int32.toNatClampNeg a2)) &&& ((w87_0 <<< (v87_10 &&& 31)) ^^^ (-1 : Int32))), .int a2, .ref (ad 0)]) hc w (c_MO_bytesAt l E ad σ v87_8 v87_7 hP158) kv_MO_bytesAt mw_1167 0 rfl rfl ⟨Nat.le_of_ble_eq_true rfl, Nat.le_of_ble_eq_true rfl⟩ hl.1 rfl (Nat.le_of_ble_eq_true rfl) ⟨Nat.zero_le _, Nat.zero_le _⟩ d_MO_partly_158 (fun H locs w => ?_)
        refine lv_iload hx hb d_MO_partly_161 (lv_at hl 1 rfl) ?_
        refine lv_ishl hx hb d_MO_partly_163 ?_
        refine lv_ior hx hb d_MO_partly_164 ?_
        refine lv_goto (tgt := 191) hx hb d_MO_partly_165 (by decide) ?_
        exact J191 (((m_r σ (Int32.toNatClampNeg a2)) &&& ((w87_0 <<< (v87_10 &&& 31)) ^^^ (-1 : Int32))) ||| ((f_MO_bytesAt σ v87_8 v87_7) <<< (v87_10 &&& 31))) _ _ _ w (lv_sub hl [] rfl) (by rw [← e87, f_MO_partly_87, if_pos q92, if_neg q136]) hp
    · have hp := hp.2 q92
      refine lv_aload_n hx hb d_MO_partly_95 rfl (lv_at hl 5 rfl) ?_
      refine lv_lload hx hb d_MO_partly_96 (lv_at hl 2 rfl) ?_
      refine lv_iload hx hb d_MO_partly_98 (lv_at hl 3 rfl) ?_
      refine lv_iload hx hb d_MO_partly_100 (lv_at hl 4 rfl) ?_
      refine lv_if_eq (tgt := 117) hx hb d_MO_partly_102 (by decide) (fun q102 => ?_) (fun q102 => ?_)
      · have hp := hp.1 q102
        refine lv_aload_n hx hb d_MO_partly_117 rfl (lv_at hl 5 rfl) ?_
        refine g_MO_r hc w mw_888 d_MO_partly_118 ?_
        refine lv_iload_n hx hb d_MO_partly_121 rfl (lv_at hl 7 rfl) ?_
        obtain ⟨hb122, hp⟩ := hp
        refine a_MO_r hc w hb122 d_MO_partly_122 ?_
        refine lv_iload hx hb d_MO_partly_123 (lv_at hl 0 rfl) ?_
        refine lv_iand hx hb d_MO_partly_125 ?_
        exact J126 v87_8 v87_7 ((m_r σ (Int32.toNatClampNeg a2)) &&& w87_0) _ _ _ w (lv_sub hl [] rfl) (by rw [← e87, f_MO_partly_87, if_neg q92, if_pos q102]) hp
      · have hp := hp.2 q102
        refine lv_aload_n hx hb d_MO_partly_105 rfl (lv_at hl 5 rfl) ?_
        refine g_MO_r hc w mw_888 d_MO_partly_106 ?_
        refine lv_iload_n hx hb d_MO_partly_109 rfl (lv_at hl 7 rfl) ?_
        obtain ⟨hb110, hp⟩ := hp
        refine a_MO_r hc w hb110 d_MO_partly_110 ?_
        refine lv_iload hx hb d_MO_partly_111 (lv_at hl 1 rfl) ?_
        refine lv_iushr hx hb d_MO_partly_113 rfl ?_
        refine lv_goto (tgt := 126) hx hb d_MO_partly_114 (by decide) ?_
        exact J126 v87_8 v87_7 ((Int32.toUInt32 (m_r σ (Int32.toNatClampNeg a2)) >>> (Int32.toUInt32 v87_10 &&& Int32.toUInt32 31)).toInt32) _ _ _ w (lv_sub hl [] rfl) (by rw [← e87, f_MO_partly_87, if_neg q92, if_neg q102]) hp
  have J57 : ∀ (v57_7 : Int32) (v57_6 : Bool) (w57_0 : Int64) (H : Heap) (locs : List Loc) (ls : Array Slot), Wd xCl E A s.heap H locs (mW E ad σ) → lv_has ls 12 [(7, .int v57_7), (6, .int (zb v57_6)), (0, .ref (ad 0)), (1, .int a1), (2, .int a2)] → zV (f_MO_partly_57 σ a1 a2 a3 v57_7 v57_6 w57_0) = Z → P_MO_partly_57 σ a1 a2 a3 v57_7 v57_6 w57_0 → W p l e (rmo 1 27) s m ([.ref (ad 0), .int a1, .int a2, .long a3] : List Value).toArray below meth c H locs 0 0 (MQ below (rQ xCl (mW E ad) E A Z) ([.ref (ad 0), .int a1, .int a2, .long a3] : List Value).toArray s 0 0 A) (F0 m 57 ls [.long w57_0]) := by
    intro v57_7 v57_6 w57_0 H locs ls w hl e57 hp
    unfold P_MO_partly_57 at hp
    refine lv_lstore (lv' := [(8, .long w57_0), (7, .int v57_7), (6, .int (zb v57_6)), (0, .ref (ad 0)), (1, .int a1), (2, .int a2)]) hx hb d_MO_partly_57 hl (by decide) rfl (fun ls hl => ?_)
    refine lv_bipush (v := 8) hx hb d_MO_partly_59 (by decide) ?_
    refine lv_iconst (v := 4) hx hb d_MO_partly_61 (by decide) ?_
    refine lv_iload hx hb d_MO_partly_62 (lv_at hl 1 rfl) ?_
    refine lv_isub hx hb d_MO_partly_64 ?_
    refine lv_imul hx hb d_MO_partly_65 ?_
    refine lv_istore (lv' := [(10, .int ((8 : Int32) * ((4 : Int32) - v57_7))), (8, .long w57_0), (7, .int v57_7), (6, .int (zb v57_6)), (0, .ref (ad 0)), (1, .int a1), (2, .int a2)]) hx hb d_MO_partly_66 hl (by decide) rfl (fun ls hl => ?_)
    refine lv_iload hx hb d_MO_partly_68 (lv_at hl 2 rfl) ?_
    refine lv_iconst (v := 4) hx hb d_MO_partly_70 (by decide) ?_
    refine lv_icmp_ne (tgt := 78) hx hb d_MO_partly_71 (by decide) (fun q71 => ?_) (fun q71 => ?_)
    · have hp := hp.2 q71
      refine lv_iconst (v := 1) hx hb d_MO_partly_78 (by decide) ?_
      refine lv_bipush (v := 8) hx hb d_MO_partly_79 (by decide) ?_
      refine lv_iload hx hb d_MO_partly_81 (lv_at hl 2 rfl) ?_
      refine lv_imul hx hb d_MO_partly_83 ?_
      refine lv_ishl hx hb d_MO_partly_84 ?_
      refine lv_iconst (v := 1) hx hb d_MO_partly_85 (by decide) ?_
      refine lv_isub hx hb d_MO_partly_86 ?_
      exact J87 ((8 : Int32) * ((4 : Int32) - v57_7)) w57_0 v57_7 v57_6 (((1 : Int32) <<< (((8 : Int32) * v57_7) &&& 31)) - (1 : Int32)) _ _ _ w (lv_sub hl [0, 1, 2, 3, 4, 5, 6] rfl) (by rw [← e57, f_MO_partly_57, if_neg q71]) hp
    · have hp := hp.1 q71
      refine lv_iconst (v := -1) hx hb d_MO_partly_74 (by decide) ?_
      refine lv_goto (tgt := 87) hx hb d_MO_partly_75 (by decide) ?_
      exact J87 ((8 : Int32) * ((4 : Int32) - v57_7)) w57_0 v57_7 v57_6 (-1 : Int32) _ _ _ w (lv_sub hl [0, 1, 2, 3, 4, 5, 6] rfl) (by rw [← e57, f_MO_partly_57, if_pos q71]) hp
  have J41 : ∀ (v41_6 : Bool) (v41_5 : Int32) (w41_0 : Int32) (H : Heap) (locs : List Loc) (ls : Array Slot), Wd xCl E A s.heap H locs (mW E ad σ) → lv_has ls 12 [(6, .int (zb v41_6)), (5, .int v41_5), (0, .ref (ad 0)), (1, .int a1), (2, .int a2), (3, .long a3)] → zV (f_MO_partly_41 σ a1 a2 a3 v41_6 v41_5 w41_0) = Z → P_MO_partly_41 σ a1 a2 a3 v41_6 v41_5 w41_0 → W p l e (rmo 1 27) s m ([.ref (ad 0), .int a1, .int a2, .long a3] : List Value).toArray below meth c H locs 0 0 (MQ below (rQ xCl (mW E ad) E A Z) ([.ref (ad 0), .int a1, .int a2, .long a3] : List Value).toArray s 0 0 A) (F0 m 41 ls [.int w41_0]) := by
    intro v41_6 v41_5 w41_0 H locs ls w hl e41 hp
    unfold P_MO_partly_41 at hp
    refine lv_istore (lv' := [(7, .int w41_0), (6, .int (zb v41_6)), (5, .int v41_5), (0, .ref (ad 0)), (1, .int a1), (2, .int a2), (3, .long a3)]) hx hb d_MO_partly_41 hl (by decide) rfl (fun ls hl => ?_)
    refine lv_iload hx hb d_MO_partly_43 (lv_at hl 1 rfl) ?_
    refine lv_if_eq (tgt := 52) hx hb d_MO_partly_45 (by decide) (fun q45 => ?_) (fun q45 => ?_)
    · have hp := hp.1 q45
      refine lv_lload_n hx hb d_MO_partly_52 rfl (lv_at hl 6 rfl) ?_
      refine lv_iload hx hb d_MO_partly_53 (lv_at hl 2 rfl) ?_
      refine lv_i2l hx hb d_MO_partly_55 rfl ?_
      refine lv_lsub hx hb d_MO_partly_56 ?_
      exact J57 w41_0 v41_6 (a3 - (Int32.toInt64 v41_5)) _ _ _ w (lv_sub hl [0, 1, 3, 4, 5] rfl) (by rw [← e41, f_MO_partly_41, if_pos q45]) hp
    · have hp := hp.2 q45
      refine lv_lload_n hx hb d_MO_partly_48 rfl (lv_at hl 6 rfl) ?_
      refine lv_goto (tgt := 57) hx hb d_MO_partly_49 (by decide) ?_
      exact J57 w41_0 v41_6 a3 _ _ _ w (lv_sub hl [0, 1, 3, 4, 5] rfl) (by rw [← e41, f_MO_partly_41, if_neg q45]) hp
  have J23 : ∀ (v23_5 : Int32) (w23_0 : Bool) (H : Heap) (locs : List Loc) (ls : Array Slot), Wd xCl E A s.heap H locs (mW E ad σ) → lv_has ls 12 [(5, .int v23_5), (0, .ref (ad 0)), (1, .int a1), (2, .int a2), (3, .long a3)] → zV (f_MO_partly_23 σ a1 a2 a3 v23_5 w23_0) = Z → P_MO_partly_23 σ a1 a2 a3 v23_5 w23_0 → W p l e (rmo 1 27) s m ([.ref (ad 0), .int a1, .int a2, .long a3] : List Value).toArray below meth c H locs 0 0 (MQ below (rQ xCl (mW E ad) E A Z) ([.ref (ad 0), .int a1, .int a2, .long a3] : List Value).toArray s 0 0 A) (F0 m 23 ls [.int (zb w23_0)]) := by
    intro v23_5 w23_0 H locs ls w hl e23 hp
    unfold P_MO_partly_23 at hp
    refine lv_istore (lv' := [(6, .int (zb w23_0)), (5, .int v23_5), (0, .ref (ad 0)), (1, .int a1), (2, .int a2), (3, .long a3)]) hx hb d_MO_partly_23 hl (by decide) rfl (fun ls hl => ?_)
    refine lv_iload hx hb d_MO_partly_25 (lv_at hl 0 rfl) ?_
    refine lv_if_eq (tgt := 37) hx hb d_MO_partly_27 (by decide) (fun q27 => ?_) (fun q27 => ?_)
    · have hp := hp.1 q27
      refine lv_iload hx hb d_MO_partly_37 (lv_at hl 1 rfl) ?_
      refine lv_iconst (v := 1) hx hb d_MO_partly_39 (by decide) ?_
      refine lv_iadd hx hb d_MO_partly_40 ?_
      exact J41 w23_0 v23_5 (v23_5 + (1 : Int32)) _ _ _ w (lv_sub hl [0, 1, 2, 3, 4, 5] rfl) (by rw [← e23, f_MO_partly_23, if_pos q27]) hp
    · have hp := hp.2 q27
      refine lv_iconst (v := 4) hx hb d_MO_partly_30 (by decide) ?_
      refine lv_iload hx hb d_MO_partly_31 (lv_at hl 1 rfl) ?_
      refine lv_isub hx hb d_MO_partly_33 ?_
      refine lv_goto (tgt := 41) hx hb d_MO_partly_34 (by decide) ?_
      exact J41 w23_0 v23_5 ((4 : Int32) - v23_5) _ _ _ w (lv_sub hl [0, 1, 2, 3, 4, 5] rfl) (by rw [← e23, f_MO_partly_23, if_neg q27]) hp
  have J18 : ∀ (v18_5 : Int32) (H : Heap) (locs : List Loc) (ls : Array Slot), Wd xCl E A s.heap H locs (mW E ad σ) → lv_has ls 12 [(5, .int v18_5), (0, .ref (ad 0)), (1, .int a1), (2, .int a2), (3, .long a3)] → zV (f_MO_partly_18 σ a1 a2 a3 v18_5) = Z → P_MO_partly_18 σ a1 a2 a3 v18_5 → W p l e (rmo 1 27) s m ([.ref (ad 0), .int a1, .int a2, .long a3] : List Value).toArray below meth c H locs 0 0 (MQ below (rQ xCl (mW E ad) E A Z) ([.ref (ad 0), .int a1, .int a2, .long a3] : List Value).toArray s 0 0 A) (F0 m 18 ls []) := by
    intro v18_5 H locs ls w hl e18 hp
    unfold P_MO_partly_18 at hp
    refine lv_iconst (v := 1) hx hb d_MO_partly_18 (by decide) ?_
    refine lv_goto (tgt := 23) hx hb d_MO_partly_19 (by decide) ?_
    exact J23 v18_5 true _ _ _ w (lv_sub hl [0, 1, 2, 3, 4] rfl) (by rw [← e18, f_MO_partly_18]) hp
  unfold P_MO_partly at hp
  refine lv_lload_n hx hb d_MO_partly_0 rfl (lv_at hl 3 rfl) ?_
  refine lv_l2i hx hb d_MO_partly_1 rfl ?_
  refine lv_iconst (v := 4) hx hb d_MO_partly_2 (by decide) ?_
  refine lv_irem hx hb d_MO_partly_3 (by decide) ?_
  refine lv_istore (lv' := [(5, .int ((Int64.toInt32 a3) - (Int64.toInt32 a3) / (4 : Int32) * (4 : Int32))), (0, .ref (ad 0)), (1, .int a1), (2, .int a2), (3, .long a3)]) hx hb d_MO_partly_4 hl (by decide) rfl (fun ls hl => ?_)
  refine lv_iload_n hx hb d_MO_partly_6 rfl (lv_at hl 2 rfl) ?_
  refine lv_bipush (v := 34) hx hb d_MO_partly_7 (by decide) ?_
  refine lv_icmp_eq (tgt := 18) hx hb d_MO_partly_9 (by decide) (fun q9 => ?_) (fun q9 => ?_)
  · have hp := hp.1 q9
    exact J18 ((Int64.toInt32 a3) - (Int64.toInt32 a3) / (4 : Int32) * (4 : Int32)) _ _ _ w (lv_sub hl [0, 1, 2, 3, 4] rfl) (by rw [← e0, f_MO_partly, if_pos q9]) hp
  · have hp := hp.2 q9
    refine lv_iload_n hx hb d_MO_partly_12 rfl (lv_at hl 2 rfl) ?_
    refine lv_bipush (v := 42) hx hb d_MO_partly_13 (by decide) ?_
    refine lv_icmp_ne (tgt := 22) hx hb d_MO_partly_15 (by decide) (fun q15 => ?_) (fun q15 => ?_)
    · have hp := hp.2 q15
      refine lv_iconst (v := 0) hx hb d_MO_partly_22 (by decide) ?_
      exact J23 ((Int64.toInt32 a3) - (Int64.toInt32 a3) / (4 : Int32) * (4 : Int32)) false _ _ _ w (lv_sub hl [0, 1, 2, 3, 4] rfl) (by rw [← e0, f_MO_partly, if_neg q9, if_neg q15]) hp
    · have hp := hp.1 q15
      exact J18 ((Int64.toInt32 a3) - (Int64.toInt32 a3) / (4 : Int32) * (4 : Int32)) _ _ _ w (lv_sub hl [0, 1, 2, 3, 4] rfl) (by rw [← e0, f_MO_partly, if_neg q9, if_pos q15]) hp
-- MO_memories
def f_MO_memories_c5 (z191 : MS) (a1 : Int32) (a2 : Int32) (a3 : Int32)  : MS := z191
def f_MO_memories_c4 (z209 : MS) (a1 : Int32) (a2 : Int32) (a3 : Int32)  : MS := z209
def f_MO_memories_c3 (z222 : MS) (a1 : Int32) (a2 : Int32) (a3 : Int32)  : MS := z222
def f_MO_memories_c2 (z168 : MS × Int64) (a1 : Int32) (a2 : Int32) (a3 : Int32) (w159_0 : Int32) (v159_5 : Bool) (v159_4 : Bool) : MS := if (m_fault z168.1) < 0 then (if (zb v159_5) = 0 then (if (zb v159_4) = 0 then (f_MO_memories_c3 (f_MO_load z168.1 a1 a2 w159_0 z168.2) a1 a2 a3 ) else (f_MO_memories_c4 (f_MO_keep z168.1 a1 a2 w159_0 z168.2) a1 a2 a3 )) else (f_MO_memories_c5 (f_MO_partly z168.1 a1 a2 z168.2) a1 a2 a3 )) else (z168.1)
def f_MO_memories_159 (σ : MS) (a1 : Int32) (a2 : Int32) (a3 : Int32) (v159_5 : Bool) (v159_4 : Bool) (w159_0 : Int32) : MS := f_MO_memories_c2 (f_MO_aligned σ a3 w159_0 v159_4 false) a1 a2 a3 w159_0 v159_5 v159_4
def f_MO_memories_132 (σ : MS) (a1 : Int32) (a2 : Int32) (a3 : Int32) (v132_5 : Bool) (v132_4 : Bool) : MS := f_MO_memories_159 σ a1 a2 a3 v132_5 v132_4 (1 : Int32)
def f_MO_memories_154 (σ : MS) (a1 : Int32) (a2 : Int32) (a3 : Int32) (v154_5 : Bool) (v154_4 : Bool) : MS := f_MO_memories_159 σ a1 a2 a3 v154_5 v154_4 (2 : Int32)
def f_MO_memories_c1 (z105 : MS) (a1 : Int32) (a2 : Int32) (a3 : Int32)  : MS := z105
def f_MO_memories_89 (σ : MS) (a1 : Int32) (a2 : Int32) (a3 : Int32) (v89_5 : Bool) (v89_4 : Bool) (w89_0 : Bool) : MS := if a1 = (51 : Int32) then (σ) else (if (zb w89_0) = 0 then (f_MO_memories_c1 (f_MO_other σ a1) a1 a2 a3 ) else (if a1 = (32 : Int32) then (f_MO_memories_132 σ a1 a2 a3 v89_5 v89_4) else (if a1 = (36 : Int32) then (f_MO_memories_132 σ a1 a2 a3 v89_5 v89_4) else (if a1 = (40 : Int32) then (f_MO_memories_132 σ a1 a2 a3 v89_5 v89_4) else (if (zb v89_5) = 0 then (if a1 = (33 : Int32) then (f_MO_memories_154 σ a1 a2 a3 v89_5 v89_4) else (if a1 = (37 : Int32) then (f_MO_memories_154 σ a1 a2 a3 v89_5 v89_4) else (if a1 = (41 : Int32) then (f_MO_memories_154 σ a1 a2 a3 v89_5 v89_4) else (f_MO_memories_159 σ a1 a2 a3 v89_5 v89_4 (4 : Int32))))) else (f_MO_memories_132 σ a1 a2 a3 v89_5 v89_4))))))
def f_MO_memories_84 (σ : MS) (a1 : Int32) (a2 : Int32) (a3 : Int32) (v84_5 : Bool) (v84_4 : Bool) : MS := f_MO_memories_89 σ a1 a2 a3 v84_5 v84_4 true
def f_MO_memories_65 (σ : MS) (a1 : Int32) (a2 : Int32) (a3 : Int32) (v65_4 : Bool) (w65_0 : Bool) : MS := if a1 < (39 : Int32) then (f_MO_memories_84 σ a1 a2 a3 w65_0 v65_4) else (if (zb v65_4) = 0 then (if a1 = (48 : Int32) then (f_MO_memories_84 σ a1 a2 a3 w65_0 v65_4) else (f_MO_memories_89 σ a1 a2 a3 w65_0 v65_4 false)) else (f_MO_memories_84 σ a1 a2 a3 w65_0 v65_4))
def f_MO_memories_60 (σ : MS) (a1 : Int32) (a2 : Int32) (a3 : Int32) (v60_4 : Bool) : MS := f_MO_memories_65 σ a1 a2 a3 v60_4 true
def f_MO_memories_34 (σ : MS) (a1 : Int32) (a2 : Int32) (a3 : Int32) (w34_0 : Bool) : MS := if a1 = (34 : Int32) then (f_MO_memories_60 σ a1 a2 a3 w34_0) else (if a1 = (38 : Int32) then (f_MO_memories_60 σ a1 a2 a3 w34_0) else (if a1 = (42 : Int32) then (f_MO_memories_60 σ a1 a2 a3 w34_0) else (if a1 = (46 : Int32) then (f_MO_memories_60 σ a1 a2 a3 w34_0) else (f_MO_memories_65 σ a1 a2 a3 w34_0 false))))
def f_MO_memories_29 (σ : MS) (a1 : Int32) (a2 : Int32) (a3 : Int32) : MS := f_MO_memories_34 σ a1 a2 a3 true
def f_MO_memories_23 (σ : MS) (a1 : Int32) (a2 : Int32) (a3 : Int32) : MS := if a1 = (56 : Int32) then (f_MO_memories_29 σ a1 a2 a3) else (f_MO_memories_34 σ a1 a2 a3 false)
def f_MO_memories (σ : MS) (a1 : Int32) (a2 : Int32) (a3 : Int32) : MS := if (zb (f_MO_within σ a1 (40 : Int32) (46 : Int32))) = 0 then (f_MO_memories_23 σ a1 a2 a3) else (if a1 = (44 : Int32) then (f_MO_memories_23 σ a1 a2 a3) else (if a1 = (45 : Int32) then (f_MO_memories_23 σ a1 a2 a3) else (f_MO_memories_29 σ a1 a2 a3)))
def P_MO_memories_c5 (z191 : MS) (a1 : Int32) (a2 : Int32) (a3 : Int32)  : Prop := True
def P_MO_memories_c4 (z209 : MS) (a1 : Int32) (a2 : Int32) (a3 : Int32)  : Prop := True
def P_MO_memories_c3 (z222 : MS) (a1 : Int32) (a2 : Int32) (a3 : Int32)  : Prop := True
def P_MO_memories_c2 (z168 : MS × Int64) (a1 : Int32) (a2 : Int32) (a3 : Int32) (w159_0 : Int32) (v159_5 : Bool) (v159_4 : Bool) : Prop := (((m_fault z168.1) < 0) → ((((zb v159_5) = 0) → ((((zb v159_4) = 0) → (P_MO_load z168.1 a1 a2 w159_0 z168.2 ∧ P_MO_memories_c3 (f_MO_load z168.1 a1 a2 w159_0 z168.2) a1 a2 a3 )) ∧ (¬ ((zb v159_4) = 0) → (P_MO_keep z168.1 a1 a2 w159_0 z168.2 ∧ P_MO_memories_c4 (f_MO_keep z168.1 a1 a2 w159_0 z168.2) a1 a2 a3 )))) ∧ (¬ ((zb v159_5) = 0) → (P_MO_partly z168.1 a1 a2 z168.2 ∧ P_MO_memories_c5 (f_MO_partly z168.1 a1 a2 z168.2) a1 a2 a3 )))) ∧ (¬ ((m_fault z168.1) < 0) → (True))
def P_MO_memories_159 (σ : MS) (a1 : Int32) (a2 : Int32) (a3 : Int32) (v159_5 : Bool) (v159_4 : Bool) (w159_0 : Int32) : Prop := P_MO_aligned σ a3 w159_0 v159_4 false ∧ P_MO_memories_c2 (f_MO_aligned σ a3 w159_0 v159_4 false) a1 a2 a3 w159_0 v159_5 v159_4
def P_MO_memories_132 (σ : MS) (a1 : Int32) (a2 : Int32) (a3 : Int32) (v132_5 : Bool) (v132_4 : Bool) : Prop := P_MO_memories_159 σ a1 a2 a3 v132_5 v132_4 (1 : Int32)
def P_MO_memories_154 (σ : MS) (a1 : Int32) (a2 : Int32) (a3 : Int32) (v154_5 : Bool) (v154_4 : Bool) : Prop := P_MO_memories_159 σ a1 a2 a3 v154_5 v154_4 (2 : Int32)
def P_MO_memories_c1 (z105 : MS) (a1 : Int32) (a2 : Int32) (a3 : Int32)  : Prop := True
def P_MO_memories_89 (σ : MS) (a1 : Int32) (a2 : Int32) (a3 : Int32) (v89_5 : Bool) (v89_4 : Bool) (w89_0 : Bool) : Prop := ((a1 = (51 : Int32)) → (True)) ∧ (¬ (a1 = (51 : Int32)) → ((((zb w89_0) = 0) → (P_MO_memories_c1 (f_MO_other σ a1) a1 a2 a3 )) ∧ (¬ ((zb w89_0) = 0) → (((a1 = (32 : Int32)) → (P_MO_memories_132 σ a1 a2 a3 v89_5 v89_4)) ∧ (¬ (a1 = (32 : Int32)) → (((a1 = (36 : Int32)) → (P_MO_memories_132 σ a1 a2 a3 v89_5 v89_4)) ∧ (¬ (a1 = (36 : Int32)) → (((a1 = (40 : Int32)) → (P_MO_memories_132 σ a1 a2 a3 v89_5 v89_4)) ∧ (¬ (a1 = (40 : Int32)) → ((((zb v89_5) = 0) → (((a1 = (33 : Int32)) → (P_MO_memories_154 σ a1 a2 a3 v89_5 v89_4)) ∧ (¬ (a1 = (33 : Int32)) → (((a1 = (37 : Int32)) → (P_MO_memories_154 σ a1 a2 a3 v89_5 v89_4)) ∧ (¬ (a1 = (37 : Int32)) → (((a1 = (41 : Int32)) → (P_MO_memories_154 σ a1 a2 a3 v89_5 v89_4)) ∧ (¬ (a1 = (41 : Int32)) → (P_MO_memories_159 σ a1 a2 a3 v89_5 v89_4 (4 : Int32))))))))) ∧ (¬ ((zb v89_5) = 0) → (P_MO_memories_132 σ a1 a2 a3 v89_5 v89_4))))))))))))
def P_MO_memories_84 (σ : MS) (a1 : Int32) (a2 : Int32) (a3 : Int32) (v84_5 : Bool) (v84_4 : Bool) : Prop := P_MO_memories_89 σ a1 a2 a3 v84_5 v84_4 true
def P_MO_memories_65 (σ : MS) (a1 : Int32) (a2 : Int32) (a3 : Int32) (v65_4 : Bool) (w65_0 : Bool) : Prop := ((a1 < (39 : Int32)) → (P_MO_memories_84 σ a1 a2 a3 w65_0 v65_4)) ∧ (¬ (a1 < (39 : Int32)) → ((((zb v65_4) = 0) → (((a1 = (48 : Int32)) → (P_MO_memories_84 σ a1 a2 a3 w65_0 v65_4)) ∧ (¬ (a1 = (48 : Int32)) → (P_MO_memories_89 σ a1 a2 a3 w65_0 v65_4 false)))) ∧ (¬ ((zb v65_4) = 0) → (P_MO_memories_84 σ a1 a2 a3 w65_0 v65_4))))
def P_MO_memories_60 (σ : MS) (a1 : Int32) (a2 : Int32) (a3 : Int32) (v60_4 : Bool) : Prop := P_MO_memories_65 σ a1 a2 a3 v60_4 true
def P_MO_memories_34 (σ : MS) (a1 : Int32) (a2 : Int32) (a3 : Int32) (w34_0 : Bool) : Prop := ((a1 = (34 : Int32)) → (P_MO_memories_60 σ a1 a2 a3 w34_0)) ∧ (¬ (a1 = (34 : Int32)) → (((a1 = (38 : Int32)) → (P_MO_memories_60 σ a1 a2 a3 w34_0)) ∧ (¬ (a1 = (38 : Int32)) → (((a1 = (42 : Int32)) → (P_MO_memories_60 σ a1 a2 a3 w34_0)) ∧ (¬ (a1 = (42 : Int32)) → (((a1 = (46 : Int32)) → (P_MO_memories_60 σ a1 a2 a3 w34_0)) ∧ (¬ (a1 = (46 : Int32)) → (P_MO_memories_65 σ a1 a2 a3 w34_0 false))))))))
def P_MO_memories_29 (σ : MS) (a1 : Int32) (a2 : Int32) (a3 : Int32) : Prop := P_MO_memories_34 σ a1 a2 a3 true
def P_MO_memories_23 (σ : MS) (a1 : Int32) (a2 : Int32) (a3 : Int32) : Prop := ((a1 = (56 : Int32)) → (P_MO_memories_29 σ a1 a2 a3)) ∧ (¬ (a1 = (56 : Int32)) → (P_MO_memories_34 σ a1 a2 a3 false))
def P_MO_memories (σ : MS) (a1 : Int32) (a2 : Int32) (a3 : Int32) : Prop := (((zb (f_MO_within σ a1 (40 : Int32) (46 : Int32))) = 0) → (P_MO_memories_23 σ a1 a2 a3)) ∧ (¬ ((zb (f_MO_within σ a1 (40 : Int32) (46 : Int32))) = 0) → (((a1 = (44 : Int32)) → (P_MO_memories_23 σ a1 a2 a3)) ∧ (¬ (a1 = (44 : Int32)) → (((a1 = (45 : Int32)) → (P_MO_memories_23 σ a1 a2 a3)) ∧ (¬ (a1 = (45 : Int32)) → (P_MO_memories_29 σ a1 a2 a3))))))
theorem d_MO_memories_0 : decode b_MO_memories 0 = .ok (.iload_n 1, 1) := by decide +kernel
theorem d_MO_memories_1 : decode b_MO_memories 1 = .ok (.bipush 40, 2) := by decide +kernel
theorem d_MO_memories_3 : decode b_MO_memories 3 = .ok (.bipush 46, 2) := by decide +kernel
theorem d_MO_memories_5 : decode b_MO_memories 5 = .ok (.invokestatic 56, 3) := by decide +kernel
theorem d_MO_memories_8 : decode b_MO_memories 8 = .ok (.ifCond .eq 15, 3) := by decide +kernel
theorem d_MO_memories_11 : decode b_MO_memories 11 = .ok (.iload_n 1, 1) := by decide +kernel
theorem d_MO_memories_12 : decode b_MO_memories 12 = .ok (.bipush 44, 2) := by decide +kernel
theorem d_MO_memories_14 : decode b_MO_memories 14 = .ok (.if_icmp .eq 9, 3) := by decide +kernel
theorem d_MO_memories_17 : decode b_MO_memories 17 = .ok (.iload_n 1, 1) := by decide +kernel
theorem d_MO_memories_18 : decode b_MO_memories 18 = .ok (.bipush 45, 2) := by decide +kernel
theorem d_MO_memories_20 : decode b_MO_memories 20 = .ok (.if_icmp .ne 9, 3) := by decide +kernel
theorem d_MO_memories_23 : decode b_MO_memories 23 = .ok (.iload_n 1, 1) := by decide +kernel
theorem d_MO_memories_24 : decode b_MO_memories 24 = .ok (.bipush 56, 2) := by decide +kernel
theorem d_MO_memories_26 : decode b_MO_memories 26 = .ok (.if_icmp .ne 7, 3) := by decide +kernel
theorem d_MO_memories_29 : decode b_MO_memories 29 = .ok (.iconst 1, 1) := by decide +kernel
theorem d_MO_memories_30 : decode b_MO_memories 30 = .ok (.goto 4, 3) := by decide +kernel
theorem d_MO_memories_33 : decode b_MO_memories 33 = .ok (.iconst 0, 1) := by decide +kernel
theorem d_MO_memories_34 : decode b_MO_memories 34 = .ok (.istore 4, 2) := by decide +kernel
theorem d_MO_memories_36 : decode b_MO_memories 36 = .ok (.iload_n 1, 1) := by decide +kernel
theorem d_MO_memories_37 : decode b_MO_memories 37 = .ok (.bipush 34, 2) := by decide +kernel
theorem d_MO_memories_39 : decode b_MO_memories 39 = .ok (.if_icmp .eq 21, 3) := by decide +kernel
theorem d_MO_memories_42 : decode b_MO_memories 42 = .ok (.iload_n 1, 1) := by decide +kernel
theorem d_MO_memories_43 : decode b_MO_memories 43 = .ok (.bipush 38, 2) := by decide +kernel
theorem d_MO_memories_45 : decode b_MO_memories 45 = .ok (.if_icmp .eq 15, 3) := by decide +kernel
theorem d_MO_memories_48 : decode b_MO_memories 48 = .ok (.iload_n 1, 1) := by decide +kernel
theorem d_MO_memories_49 : decode b_MO_memories 49 = .ok (.bipush 42, 2) := by decide +kernel
theorem d_MO_memories_51 : decode b_MO_memories 51 = .ok (.if_icmp .eq 9, 3) := by decide +kernel
theorem d_MO_memories_54 : decode b_MO_memories 54 = .ok (.iload_n 1, 1) := by decide +kernel
theorem d_MO_memories_55 : decode b_MO_memories 55 = .ok (.bipush 46, 2) := by decide +kernel
theorem d_MO_memories_57 : decode b_MO_memories 57 = .ok (.if_icmp .ne 7, 3) := by decide +kernel
theorem d_MO_memories_60 : decode b_MO_memories 60 = .ok (.iconst 1, 1) := by decide +kernel
theorem d_MO_memories_61 : decode b_MO_memories 61 = .ok (.goto 4, 3) := by decide +kernel
theorem d_MO_memories_64 : decode b_MO_memories 64 = .ok (.iconst 0, 1) := by decide +kernel
theorem d_MO_memories_65 : decode b_MO_memories 65 = .ok (.istore 5, 2) := by decide +kernel
theorem d_MO_memories_67 : decode b_MO_memories 67 = .ok (.iload_n 1, 1) := by decide +kernel
theorem d_MO_memories_68 : decode b_MO_memories 68 = .ok (.bipush 39, 2) := by decide +kernel
theorem d_MO_memories_70 : decode b_MO_memories 70 = .ok (.if_icmp .lt 14, 3) := by decide +kernel
theorem d_MO_memories_73 : decode b_MO_memories 73 = .ok (.iload 4, 2) := by decide +kernel
theorem d_MO_memories_75 : decode b_MO_memories 75 = .ok (.ifCond .ne 9, 3) := by decide +kernel
theorem d_MO_memories_78 : decode b_MO_memories 78 = .ok (.iload_n 1, 1) := by decide +kernel
theorem d_MO_memories_79 : decode b_MO_memories 79 = .ok (.bipush 48, 2) := by decide +kernel
theorem d_MO_memories_81 : decode b_MO_memories 81 = .ok (.if_icmp .ne 7, 3) := by decide +kernel
theorem d_MO_memories_84 : decode b_MO_memories 84 = .ok (.iconst 1, 1) := by decide +kernel
theorem d_MO_memories_85 : decode b_MO_memories 85 = .ok (.goto 4, 3) := by decide +kernel
theorem d_MO_memories_88 : decode b_MO_memories 88 = .ok (.iconst 0, 1) := by decide +kernel
theorem d_MO_memories_89 : decode b_MO_memories 89 = .ok (.istore 6, 2) := by decide +kernel
theorem d_MO_memories_91 : decode b_MO_memories 91 = .ok (.iload_n 1, 1) := by decide +kernel
theorem d_MO_memories_92 : decode b_MO_memories 92 = .ok (.bipush 51, 2) := by decide +kernel
theorem d_MO_memories_94 : decode b_MO_memories 94 = .ok (.if_icmp .ne 4, 3) := by decide +kernel
theorem d_MO_memories_97 : decode b_MO_memories 97 = .ok (.return_, 1) := by decide +kernel
theorem d_MO_memories_98 : decode b_MO_memories 98 = .ok (.iload 6, 2) := by decide +kernel
theorem d_MO_memories_100 : decode b_MO_memories 100 = .ok (.ifCond .ne 9, 3) := by decide +kernel
theorem d_MO_memories_103 : decode b_MO_memories 103 = .ok (.aload_n 0, 1) := by decide +kernel
theorem d_MO_memories_104 : decode b_MO_memories 104 = .ok (.iload_n 1, 1) := by decide +kernel
theorem d_MO_memories_105 : decode b_MO_memories 105 = .ok (.invokevirtual 193, 3) := by decide +kernel
theorem d_MO_memories_108 : decode b_MO_memories 108 = .ok (.return_, 1) := by decide +kernel
theorem d_MO_memories_109 : decode b_MO_memories 109 = .ok (.iload_n 1, 1) := by decide +kernel
theorem d_MO_memories_110 : decode b_MO_memories 110 = .ok (.bipush 32, 2) := by decide +kernel
theorem d_MO_memories_112 : decode b_MO_memories 112 = .ok (.if_icmp .eq 20, 3) := by decide +kernel
theorem d_MO_memories_115 : decode b_MO_memories 115 = .ok (.iload_n 1, 1) := by decide +kernel
theorem d_MO_memories_116 : decode b_MO_memories 116 = .ok (.bipush 36, 2) := by decide +kernel
theorem d_MO_memories_118 : decode b_MO_memories 118 = .ok (.if_icmp .eq 14, 3) := by decide +kernel
theorem d_MO_memories_121 : decode b_MO_memories 121 = .ok (.iload_n 1, 1) := by decide +kernel
theorem d_MO_memories_122 : decode b_MO_memories 122 = .ok (.bipush 40, 2) := by decide +kernel
theorem d_MO_memories_124 : decode b_MO_memories 124 = .ok (.if_icmp .eq 8, 3) := by decide +kernel
theorem d_MO_memories_127 : decode b_MO_memories 127 = .ok (.iload 5, 2) := by decide +kernel
theorem d_MO_memories_129 : decode b_MO_memories 129 = .ok (.ifCond .eq 7, 3) := by decide +kernel
theorem d_MO_memories_132 : decode b_MO_memories 132 = .ok (.iconst 1, 1) := by decide +kernel
theorem d_MO_memories_133 : decode b_MO_memories 133 = .ok (.goto 26, 3) := by decide +kernel
theorem d_MO_memories_136 : decode b_MO_memories 136 = .ok (.iload_n 1, 1) := by decide +kernel
theorem d_MO_memories_137 : decode b_MO_memories 137 = .ok (.bipush 33, 2) := by decide +kernel
theorem d_MO_memories_139 : decode b_MO_memories 139 = .ok (.if_icmp .eq 15, 3) := by decide +kernel
theorem d_MO_memories_142 : decode b_MO_memories 142 = .ok (.iload_n 1, 1) := by decide +kernel
theorem d_MO_memories_143 : decode b_MO_memories 143 = .ok (.bipush 37, 2) := by decide +kernel
theorem d_MO_memories_145 : decode b_MO_memories 145 = .ok (.if_icmp .eq 9, 3) := by decide +kernel
theorem d_MO_memories_148 : decode b_MO_memories 148 = .ok (.iload_n 1, 1) := by decide +kernel
theorem d_MO_memories_149 : decode b_MO_memories 149 = .ok (.bipush 41, 2) := by decide +kernel
theorem d_MO_memories_151 : decode b_MO_memories 151 = .ok (.if_icmp .ne 7, 3) := by decide +kernel
theorem d_MO_memories_154 : decode b_MO_memories 154 = .ok (.iconst 2, 1) := by decide +kernel
theorem d_MO_memories_155 : decode b_MO_memories 155 = .ok (.goto 4, 3) := by decide +kernel
theorem d_MO_memories_158 : decode b_MO_memories 158 = .ok (.iconst 4, 1) := by decide +kernel
theorem d_MO_memories_159 : decode b_MO_memories 159 = .ok (.istore 7, 2) := by decide +kernel
theorem d_MO_memories_161 : decode b_MO_memories 161 = .ok (.aload_n 0, 1) := by decide +kernel
theorem d_MO_memories_162 : decode b_MO_memories 162 = .ok (.iload_n 3, 1) := by decide +kernel
theorem d_MO_memories_163 : decode b_MO_memories 163 = .ok (.iload 7, 2) := by decide +kernel
theorem d_MO_memories_165 : decode b_MO_memories 165 = .ok (.iload 4, 2) := by decide +kernel
theorem d_MO_memories_167 : decode b_MO_memories 167 = .ok (.iconst 0, 1) := by decide +kernel
theorem d_MO_memories_168 : decode b_MO_memories 168 = .ok (.invokevirtual 149, 3) := by decide +kernel
theorem d_MO_memories_171 : decode b_MO_memories 171 = .ok (.lstore 8, 2) := by decide +kernel
theorem d_MO_memories_173 : decode b_MO_memories 173 = .ok (.aload_n 0, 1) := by decide +kernel
theorem d_MO_memories_174 : decode b_MO_memories 174 = .ok (.getfield 45, 3) := by decide +kernel
theorem d_MO_memories_177 : decode b_MO_memories 177 = .ok (.ifCond .lt 4, 3) := by decide +kernel
theorem d_MO_memories_180 : decode b_MO_memories 180 = .ok (.return_, 1) := by decide +kernel
theorem d_MO_memories_181 : decode b_MO_memories 181 = .ok (.iload 5, 2) := by decide +kernel
theorem d_MO_memories_183 : decode b_MO_memories 183 = .ok (.ifCond .eq 14, 3) := by decide +kernel
theorem d_MO_memories_186 : decode b_MO_memories 186 = .ok (.aload_n 0, 1) := by decide +kernel
theorem d_MO_memories_187 : decode b_MO_memories 187 = .ok (.iload_n 1, 1) := by decide +kernel
theorem d_MO_memories_188 : decode b_MO_memories 188 = .ok (.iload_n 2, 1) := by decide +kernel
theorem d_MO_memories_189 : decode b_MO_memories 189 = .ok (.lload 8, 2) := by decide +kernel
theorem d_MO_memories_191 : decode b_MO_memories 191 = .ok (.invokevirtual 245, 3) := by decide +kernel
theorem d_MO_memories_194 : decode b_MO_memories 194 = .ok (.goto 31, 3) := by decide +kernel
theorem d_MO_memories_197 : decode b_MO_memories 197 = .ok (.iload 4, 2) := by decide +kernel
theorem d_MO_memories_199 : decode b_MO_memories 199 = .ok (.ifCond .eq 16, 3) := by decide +kernel
theorem d_MO_memories_202 : decode b_MO_memories 202 = .ok (.aload_n 0, 1) := by decide +kernel
theorem d_MO_memories_203 : decode b_MO_memories 203 = .ok (.iload_n 1, 1) := by decide +kernel
theorem d_MO_memories_204 : decode b_MO_memories 204 = .ok (.iload_n 2, 1) := by decide +kernel
theorem d_MO_memories_205 : decode b_MO_memories 205 = .ok (.iload 7, 2) := by decide +kernel
theorem d_MO_memories_207 : decode b_MO_memories 207 = .ok (.lload 8, 2) := by decide +kernel
theorem d_MO_memories_209 : decode b_MO_memories 209 = .ok (.invokevirtual 249, 3) := by decide +kernel
theorem d_MO_memories_212 : decode b_MO_memories 212 = .ok (.goto 13, 3) := by decide +kernel
theorem d_MO_memories_215 : decode b_MO_memories 215 = .ok (.aload_n 0, 1) := by decide +kernel
theorem d_MO_memories_216 : decode b_MO_memories 216 = .ok (.iload_n 1, 1) := by decide +kernel
theorem d_MO_memories_217 : decode b_MO_memories 217 = .ok (.iload_n 2, 1) := by decide +kernel
theorem d_MO_memories_218 : decode b_MO_memories 218 = .ok (.iload 7, 2) := by decide +kernel
theorem d_MO_memories_220 : decode b_MO_memories 220 = .ok (.lload 8, 2) := by decide +kernel
theorem d_MO_memories_222 : decode b_MO_memories 222 = .ok (.invokevirtual 253, 3) := by decide +kernel
theorem d_MO_memories_225 : decode b_MO_memories 225 = .ok (.return_, 1) := by decide +kernel
set_option maxHeartbeats 4000000 in
set_option maxRecDepth 100000 in
theorem c_MO_memories (l : Launch) (E : Ev) (ad : Nat → Nat) (σ : MS) (a1 : Int32) (a2 : Int32) (a3 : Int32) (hp : P_MO_memories σ a1 a2 a3) : rC xCl l E (mW E ad) y_MO_memories b_MO_memories 10 (Option.none : Option Jvm.ClassFile.FieldType) (rmo 4 97) [.ref (ad 0), .int a1, .int a2, .int a3] σ (zV (f_MO_memories σ a1 a2 a3)) := by
  refine rC.of (by decide) (Nat.le_of_ble_eq_true rfl) ?_
  intro p e s m below meth c A ls hc w hl
  generalize e0 : zV (f_MO_memories σ a1 a2 a3) = Z
  have hc : Cx xCl E A p s m ([.ref (ad 0), .int a1, .int a2, .int a3] : List Value).toArray meth c b_MO_memories 10 (Option.none : Option Jvm.ClassFile.FieldType) "PageMachineModel" := hc
  have hx := hc.1
  have hb := hc.2.1
  have ho := hc.2.2.2.2.2.1
  have hT := hc.2.2.2.2.2.2.1
  have hl : lv_has ls 10 [(0, .ref (ad 0)), (1, .int a1), (2, .int a2), (3, .int a3)] := hl
  have J159 : ∀ (v159_5 : Bool) (v159_4 : Bool) (w159_0 : Int32) (H : Heap) (locs : List Loc) (ls : Array Slot), Wd xCl E A s.heap H locs (mW E ad σ) → lv_has ls 10 [(5, .int (zb v159_5)), (4, .int (zb v159_4)), (0, .ref (ad 0)), (1, .int a1), (2, .int a2), (3, .int a3)] → zV (f_MO_memories_159 σ a1 a2 a3 v159_5 v159_4 w159_0) = Z → P_MO_memories_159 σ a1 a2 a3 v159_5 v159_4 w159_0 → W p l e (rmo 4 97) s m ([.ref (ad 0), .int a1, .int a2, .int a3] : List Value).toArray below meth c H locs 0 0 (MQ below (rQ xCl (mW E ad) E A Z) ([.ref (ad 0), .int a1, .int a2, .int a3] : List Value).toArray s 0 0 A) (F0 m 159 ls [.int w159_0]) := by
    intro v159_5 v159_4 w159_0 H locs ls w hl e159 hp
    unfold P_MO_memories_159 at hp
    refine lv_istore (lv' := [(7, .int w159_0), (5, .int (zb v159_5)), (4, .int (zb v159_4)), (0, .ref (ad 0)), (1, .int a1), (2, .int a2), (3, .int a3)]) hx hb d_MO_memories_159 hl (by decide) rfl (fun ls hl => ?_)
    refine lv_aload_n hx hb d_MO_memories_161 rfl (lv_at hl 3 rfl) ?_
    refine lv_iload_n hx hb d_MO_memories_162 rfl (lv_at hl 6 rfl) ?_
    refine lv_iload hx hb d_MO_memories_163 (lv_at hl 0 rfl) ?_
    refine lv_iload hx hb d_MO_memories_165 (lv_at hl 2 rfl) ?_
    refine lv_iconst (v := 0) hx hb d_MO_memories_167 (by decide) ?_
    obtain ⟨hP168, hp⟩ := hp
    refine cVL (rest := []) hc w (c_MO_aligned l E ad σ a3 w159_0 v159_4 false hP168) kv_MO_aligned mw_1041 0 rfl rfl ⟨Nat.le_of_ble_eq_true rfl, Nat.le_of_ble_eq_true rfl⟩ hl.1 rfl (Nat.le_of_ble_eq_true rfl) ⟨Nat.zero_le _, Nat.zero_le _⟩ d_MO_memories_168 (fun z168 H locs hs168 w => ?_)
    rw [hs168] at hp
    unfold P_MO_memories_c2 at hp
    have e_c2 : zV (f_MO_memories_c2 z168 a1 a2 a3 w159_0 v159_5 v159_4) = Z := by rw [← e159, f_MO_memories_159, hs168]
    refine lv_lstore (lv' := [(8, .long z168.2), (7, .int w159_0), (5, .int (zb v159_5)), (4, .int (zb v159_4)), (0, .ref (ad 0)), (1, .int a1), (2, .int a2), (3, .int a3)]) hx hb d_MO_memories_171 hl (by decide) rfl (fun ls hl => ?_)
    refine lv_aload_n hx hb d_MO_memories_173 rfl (lv_at hl 4 rfl) ?_
    refine g_MO_fault hc w mw_904 d_MO_memories_174 ?_
    refine lv_if_lt (tgt := 181) hx hb d_MO_memories_177 (by decide) (fun q177 => ?_) (fun q177 => ?_)
    · have hp := hp.1 q177
      refine lv_iload hx hb d_MO_memories_181 (lv_at hl 2 rfl) ?_
      refine lv_if_eq (tgt := 197) hx hb d_MO_memories_183 (by decide) (fun q183 => ?_) (fun q183 => ?_)
      · have hp := hp.1 q183
        refine lv_iload hx hb d_MO_memories_197 (lv_at hl 3 rfl) ?_
        refine lv_if_eq (tgt := 215) hx hb d_MO_memories_199 (by decide) (fun q199 => ?_) (fun q199 => ?_)
        · have hp := hp.1 q199
          refine lv_aload_n hx hb d_MO_memories_215 rfl (lv_at hl 4 rfl) ?_
          refine lv_iload_n hx hb d_MO_memories_216 rfl (lv_at hl 5 rfl) ?_
          refine lv_iload_n hx hb d_MO_memories_217 rfl (lv_at hl 6 rfl) ?_
          refine lv_iload hx hb d_MO_memories_218 (lv_at hl 1 rfl) ?_
          refine lv_lload hx hb d_MO_memories_220 (lv_at hl 0 rfl) ?_
          obtain ⟨hP222, hp⟩ := hp
          refine cVV (rest := []) hc w (c_MO_load l E ad z168.1 a1 a2 w159_0 z168.2 hP222) kv_MO_load mw_1175 0 rfl rfl ⟨Nat.le_of_ble_eq_true rfl, Nat.le_of_ble_eq_true rfl⟩ hl.1 rfl (Nat.le_of_ble_eq_true rfl) ⟨Nat.zero_le _, Nat.zero_le _⟩ d_MO_memories_222 (fun z222 H locs hs222 w => ?_)
          rw [hs222] at hp
          unfold P_MO_memories_c3 at hp
          have e_c3 : zV (f_MO_memories_c3 z222 a1 a2 a3 ) = Z := by rw [← e_c2, f_MO_memories_c2, if_pos q177, if_pos q183, if_pos q199, hs222]
          exact rt_v hc w d_MO_memories_225 (by rw [← e_c3, f_MO_memories_c3] <;> rfl)
        · have hp := hp.2 q199
          refine lv_aload_n hx hb d_MO_memories_202 rfl (lv_at hl 4 rfl) ?_
          refine lv_iload_n hx hb d_MO_memories_203 rfl (lv_at hl 5 rfl) ?_
          refine lv_iload_n hx hb d_MO_memories_204 rfl (lv_at hl 6 rfl) ?_
          refine lv_iload hx hb d_MO_memories_205 (lv_at hl 1 rfl) ?_
          refine lv_lload hx hb d_MO_memories_207 (lv_at hl 0 rfl) ?_
          obtain ⟨hP209, hp⟩ := hp
          refine cVV (rest := []) hc w (c_MO_keep l E ad z168.1 a1 a2 w159_0 z168.2 hP209) kv_MO_keep mw_1171 0 rfl rfl ⟨Nat.le_of_ble_eq_true rfl, Nat.le_of_ble_eq_true rfl⟩ hl.1 rfl (Nat.le_of_ble_eq_true rfl) ⟨Nat.zero_le _, Nat.zero_le _⟩ d_MO_memories_209 (fun z209 H locs hs209 w => ?_)
          rw [hs209] at hp
          unfold P_MO_memories_c4 at hp
          have e_c4 : zV (f_MO_memories_c4 z209 a1 a2 a3 ) = Z := by rw [← e_c2, f_MO_memories_c2, if_pos q177, if_pos q183, if_neg q199, hs209]
          refine lv_goto (tgt := 225) hx hb d_MO_memories_212 (by decide) ?_
          exact rt_v hc w d_MO_memories_225 (by rw [← e_c4, f_MO_memories_c4] <;> rfl)
      · have hp := hp.2 q183
        refine lv_aload_n hx hb d_MO_memories_186 rfl (lv_at hl 4 rfl) ?_
        refine lv_iload_n hx hb d_MO_memories_187 rfl (lv_at hl 5 rfl) ?_
        refine lv_iload_n hx hb d_MO_memories_188 rfl (lv_at hl 6 rfl) ?_
        refine lv_lload hx hb d_MO_memories_189 (lv_at hl 0 rfl) ?_
        obtain ⟨hP191, hp⟩ := hp
        refine cVV (rest := []) hc w (c_MO_partly l E ad z168.1 a1 a2 z168.2 hP191) kv_MO_partly mw_1159 0 rfl rfl ⟨Nat.le_of_ble_eq_true rfl, Nat.le_of_ble_eq_true rfl⟩ hl.1 rfl (Nat.le_of_ble_eq_true rfl) ⟨Nat.zero_le _, Nat.zero_le _⟩ d_MO_memories_191 (fun z191 H locs hs191 w => ?_)
        rw [hs191] at hp
        unfold P_MO_memories_c5 at hp
        have e_c5 : zV (f_MO_memories_c5 z191 a1 a2 a3 ) = Z := by rw [← e_c2, f_MO_memories_c2, if_pos q177, if_neg q183, hs191]
        refine lv_goto (tgt := 225) hx hb d_MO_memories_194 (by decide) ?_
        exact rt_v hc w d_MO_memories_225 (by rw [← e_c5, f_MO_memories_c5] <;> rfl)
    · have hp := hp.2 q177
      exact rt_v hc w d_MO_memories_180 (by rw [← e_c2, f_MO_memories_c2, if_neg q177] <;> rfl)
  have J132 : ∀ (v132_5 : Bool) (v132_4 : Bool) (H : Heap) (locs : List Loc) (ls : Array Slot), Wd xCl E A s.heap H locs (mW E ad σ) → lv_has ls 10 [(5, .int (zb v132_5)), (4, .int (zb v132_4)), (0, .ref (ad 0)), (1, .int a1), (2, .int a2), (3, .int a3)] → zV (f_MO_memories_132 σ a1 a2 a3 v132_5 v132_4) = Z → P_MO_memories_132 σ a1 a2 a3 v132_5 v132_4 → W p l e (rmo 4 97) s m ([.ref (ad 0), .int a1, .int a2, .int a3] : List Value).toArray below meth c H locs 0 0 (MQ below (rQ xCl (mW E ad) E A Z) ([.ref (ad 0), .int a1, .int a2, .int a3] : List Value).toArray s 0 0 A) (F0 m 132 ls []) := by
    intro v132_5 v132_4 H locs ls w hl e132 hp
    unfold P_MO_memories_132 at hp
    refine lv_iconst (v := 1) hx hb d_MO_memories_132 (by decide) ?_
    refine lv_goto (tgt := 159) hx hb d_MO_memories_133 (by decide) ?_
    exact J159 v132_5 v132_4 (1 : Int32) _ _ _ w (lv_sub hl [0, 1, 2, 3, 4, 5] rfl) (by rw [← e132, f_MO_memories_132]) hp
  have J154 : ∀ (v154_5 : Bool) (v154_4 : Bool) (H : Heap) (locs : List Loc) (ls : Array Slot), Wd xCl E A s.heap H locs (mW E ad σ) → lv_has ls 10 [(5, .int (zb v154_5)), (4, .int (zb v154_4)), (0, .ref (ad 0)), (1, .int a1), (2, .int a2), (3, .int a3)] → zV (f_MO_memories_154 σ a1 a2 a3 v154_5 v154_4) = Z → P_MO_memories_154 σ a1 a2 a3 v154_5 v154_4 → W p l e (rmo 4 97) s m ([.ref (ad 0), .int a1, .int a2, .int a3] : List Value).toArray below meth c H locs 0 0 (MQ below (rQ xCl (mW E ad) E A Z) ([.ref (ad 0), .int a1, .int a2, .int a3] : List Value).toArray s 0 0 A) (F0 m 154 ls []) := by
    intro v154_5 v154_4 H locs ls w hl e154 hp
    unfold P_MO_memories_154 at hp
    refine lv_iconst (v := 2) hx hb d_MO_memories_154 (by decide) ?_
    refine lv_goto (tgt := 159) hx hb d_MO_memories_155 (by decide) ?_
    exact J159 v154_5 v154_4 (2 : Int32) _ _ _ w (lv_sub hl [0, 1, 2, 3, 4, 5] rfl) (by rw [← e154, f_MO_memories_154]) hp
  have J89 : ∀ (v89_5 : Bool) (v89_4 : Bool) (w89_0 : Bool) (H : Heap) (locs : List Loc) (ls : Array Slot), Wd xCl E A s.heap H locs (mW E ad σ) → lv_has ls 10 [(5, .int (zb v89_5)), (4, .int (zb v89_4)), (0, .ref (ad 0)), (1, .int a1), (2, .int a2), (3, .int a3)] → zV (f_MO_memories_89 σ a1 a2 a3 v89_5 v89_4 w89_0) = Z → P_MO_memories_89 σ a1 a2 a3 v89_5 v89_4 w89_0 → W p l e (rmo 4 97) s m ([.ref (ad 0), .int a1, .int a2, .int a3] : List Value).toArray below meth c H locs 0 0 (MQ below (rQ xCl (mW E ad) E A Z) ([.ref (ad 0), .int a1, .int a2, .int a3] : List Value).toArray s 0 0 A) (F0 m 89 ls [.int (zb w89_0)]) := by
    intro v89_5 v89_4 w89_0 H locs ls w hl e89 hp
    unfold P_MO_memories_89 at hp
    refine lv_istore (lv' := [(6, .int (zb w89_0)), (5, .int (zb v89_5)), (4, .int (zb v89_4)), (0, .ref (ad 0)), (1, .int a1), (2, .int a2), (3, .int a3)]) hx hb d_MO_memories_89 hl (by decide) rfl (fun ls hl => ?_)
    refine lv_iload_n hx hb d_MO_memories_91 rfl (lv_at hl 4 rfl) ?_
    refine lv_bipush (v := 51) hx hb d_MO_memories_92 (by decide) ?_
    refine lv_icmp_ne (tgt := 98) hx hb d_MO_memories_94 (by decide) (fun q94 => ?_) (fun q94 => ?_)
    · have hp := hp.2 q94
      refine lv_iload hx hb d_MO_memories_98 (lv_at hl 0 rfl) ?_
      refine lv_if_ne (tgt := 109) hx hb d_MO_memories_100 (by decide) (fun q100 => ?_) (fun q100 => ?_)
      · have hp := hp.2 q100
        refine lv_iload_n hx hb d_MO_memories_109 rfl (lv_at hl 4 rfl) ?_
        refine lv_bipush (v := 32) hx hb d_MO_memories_110 (by decide) ?_
        refine lv_icmp_eq (tgt := 132) hx hb d_MO_memories_112 (by decide) (fun q112 => ?_) (fun q112 => ?_)
        · have hp := hp.1 q112
          exact J132 v89_5 v89_4 _ _ _ w (lv_sub hl [1, 2, 3, 4, 5, 6] rfl) (by rw [← e89, f_MO_memories_89, if_neg q94, if_neg q100, if_pos q112]) hp
        · have hp := hp.2 q112
          refine lv_iload_n hx hb d_MO_memories_115 rfl (lv_at hl 4 rfl) ?_
          refine lv_bipush (v := 36) hx hb d_MO_memories_116 (by decide) ?_
          refine lv_icmp_eq (tgt := 132) hx hb d_MO_memories_118 (by decide) (fun q118 => ?_) (fun q118 => ?_)
          · have hp := hp.1 q118
            exact J132 v89_5 v89_4 _ _ _ w (lv_sub hl [1, 2, 3, 4, 5, 6] rfl) (by rw [← e89, f_MO_memories_89, if_neg q94, if_neg q100, if_neg q112, if_pos q118]) hp
          · have hp := hp.2 q118
            refine lv_iload_n hx hb d_MO_memories_121 rfl (lv_at hl 4 rfl) ?_
            refine lv_bipush (v := 40) hx hb d_MO_memories_122 (by decide) ?_
            refine lv_icmp_eq (tgt := 132) hx hb d_MO_memories_124 (by decide) (fun q124 => ?_) (fun q124 => ?_)
            · have hp := hp.1 q124
              exact J132 v89_5 v89_4 _ _ _ w (lv_sub hl [1, 2, 3, 4, 5, 6] rfl) (by rw [← e89, f_MO_memories_89, if_neg q94, if_neg q100, if_neg q112, if_neg q118, if_pos q124]) hp
            · have hp := hp.2 q124
              refine lv_iload hx hb d_MO_memories_127 (lv_at hl 1 rfl) ?_
              refine lv_if_eq (tgt := 136) hx hb d_MO_memories_129 (by decide) (fun q129 => ?_) (fun q129 => ?_)
              · have hp := hp.1 q129
                refine lv_iload_n hx hb d_MO_memories_136 rfl (lv_at hl 4 rfl) ?_
                refine lv_bipush (v := 33) hx hb d_MO_memories_137 (by decide) ?_
                refine lv_icmp_eq (tgt := 154) hx hb d_MO_memories_139 (by decide) (fun q139 => ?_) (fun q139 => ?_)
                · have hp := hp.1 q139
                  exact J154 v89_5 v89_4 _ _ _ w (lv_sub hl [1, 2, 3, 4, 5, 6] rfl) (by rw [← e89, f_MO_memories_89, if_neg q94, if_neg q100, if_neg q112, if_neg q118, if_neg q124, if_pos q129, if_pos q139]) hp
                · have hp := hp.2 q139
                  refine lv_iload_n hx hb d_MO_memories_142 rfl (lv_at hl 4 rfl) ?_
                  refine lv_bipush (v := 37) hx hb d_MO_memories_143 (by decide) ?_
                  refine lv_icmp_eq (tgt := 154) hx hb d_MO_memories_145 (by decide) (fun q145 => ?_) (fun q145 => ?_)
                  · have hp := hp.1 q145
                    exact J154 v89_5 v89_4 _ _ _ w (lv_sub hl [1, 2, 3, 4, 5, 6] rfl) (by rw [← e89, f_MO_memories_89, if_neg q94, if_neg q100, if_neg q112, if_neg q118, if_neg q124, if_pos q129, if_neg q139, if_pos q145]) hp
                  · have hp := hp.2 q145
                    refine lv_iload_n hx hb d_MO_memories_148 rfl (lv_at hl 4 rfl) ?_
                    refine lv_bipush (v := 41) hx hb d_MO_memories_149 (by decide) ?_
                    refine lv_icmp_ne (tgt := 158) hx hb d_MO_memories_151 (by decide) (fun q151 => ?_) (fun q151 => ?_)
                    · have hp := hp.2 q151
                      refine lv_iconst (v := 4) hx hb d_MO_memories_158 (by decide) ?_
                      exact J159 v89_5 v89_4 (4 : Int32) _ _ _ w (lv_sub hl [1, 2, 3, 4, 5, 6] rfl) (by rw [← e89, f_MO_memories_89, if_neg q94, if_neg q100, if_neg q112, if_neg q118, if_neg q124, if_pos q129, if_neg q139, if_neg q145, if_neg q151]) hp
                    · have hp := hp.1 q151
                      exact J154 v89_5 v89_4 _ _ _ w (lv_sub hl [1, 2, 3, 4, 5, 6] rfl) (by rw [← e89, f_MO_memories_89, if_neg q94, if_neg q100, if_neg q112, if_neg q118, if_neg q124, if_pos q129, if_neg q139, if_neg q145, if_pos q151]) hp
              · have hp := hp.2 q129
                exact J132 v89_5 v89_4 _ _ _ w (lv_sub hl [1, 2, 3, 4, 5, 6] rfl) (by rw [← e89, f_MO_memories_89, if_neg q94, if_neg q100, if_neg q112, if_neg q118, if_neg q124, if_neg q129]) hp
      · have hp := hp.1 q100
        refine lv_aload_n hx hb d_MO_memories_103 rfl (lv_at hl 3 rfl) ?_
        refine lv_iload_n hx hb d_MO_memories_104 rfl (lv_at hl 4 rfl) ?_
        refine cVV (rest := []) hc w (c_MO_other l E ad σ a1) kv_MO_other mw_1155 0 rfl rfl ⟨Nat.le_of_ble_eq_true rfl, Nat.le_of_ble_eq_true rfl⟩ hl.1 rfl (Nat.le_of_ble_eq_true rfl) ⟨Nat.zero_le _, Nat.zero_le _⟩ d_MO_memories_105 (fun z105 H locs hs105 w => ?_)
        rw [hs105] at hp
        unfold P_MO_memories_c1 at hp
        have e_c1 : zV (f_MO_memories_c1 z105 a1 a2 a3 ) = Z := by rw [← e89, f_MO_memories_89, if_neg q94, if_pos q100, hs105]
        exact rt_v hc w d_MO_memories_108 (by rw [← e_c1, f_MO_memories_c1] <;> rfl)
    · have hp := hp.1 q94
      exact rt_v hc w d_MO_memories_97 (by rw [← e89, f_MO_memories_89, if_pos q94] <;> rfl)
  have J84 : ∀ (v84_5 : Bool) (v84_4 : Bool) (H : Heap) (locs : List Loc) (ls : Array Slot), Wd xCl E A s.heap H locs (mW E ad σ) → lv_has ls 10 [(5, .int (zb v84_5)), (4, .int (zb v84_4)), (0, .ref (ad 0)), (1, .int a1), (2, .int a2), (3, .int a3)] → zV (f_MO_memories_84 σ a1 a2 a3 v84_5 v84_4) = Z → P_MO_memories_84 σ a1 a2 a3 v84_5 v84_4 → W p l e (rmo 4 97) s m ([.ref (ad 0), .int a1, .int a2, .int a3] : List Value).toArray below meth c H locs 0 0 (MQ below (rQ xCl (mW E ad) E A Z) ([.ref (ad 0), .int a1, .int a2, .int a3] : List Value).toArray s 0 0 A) (F0 m 84 ls []) := by
    intro v84_5 v84_4 H locs ls w hl e84 hp
    unfold P_MO_memories_84 at hp
    refine lv_iconst (v := 1) hx hb d_MO_memories_84 (by decide) ?_
    refine lv_goto (tgt := 89) hx hb d_MO_memories_85 (by decide) ?_
    exact J89 v84_5 v84_4 true _ _ _ w (lv_sub hl [0, 1, 2, 3, 4, 5] rfl) (by rw [← e84, f_MO_memories_84]) hp
  have J65 : ∀ (v65_4 : Bool) (w65_0 : Bool) (H : Heap) (locs : List Loc) (ls : Array Slot), Wd xCl E A s.heap H locs (mW E ad σ) → lv_has ls 10 [(4, .int (zb v65_4)), (0, .ref (ad 0)), (1, .int a1), (2, .int a2), (3, .int a3)] → zV (f_MO_memories_65 σ a1 a2 a3 v65_4 w65_0) = Z → P_MO_memories_65 σ a1 a2 a3 v65_4 w65_0 → W p l e (rmo 4 97) s m ([.ref (ad 0), .int a1, .int a2, .int a3] : List Value).toArray below meth c H locs 0 0 (MQ below (rQ xCl (mW E ad) E A Z) ([.ref (ad 0), .int a1, .int a2, .int a3] : List Value).toArray s 0 0 A) (F0 m 65 ls [.int (zb w65_0)]) := by
    intro v65_4 w65_0 H locs ls w hl e65 hp
    unfold P_MO_memories_65 at hp
    refine lv_istore (lv' := [(5, .int (zb w65_0)), (4, .int (zb v65_4)), (0, .ref (ad 0)), (1, .int a1), (2, .int a2), (3, .int a3)]) hx hb d_MO_memories_65 hl (by decide) rfl (fun ls hl => ?_)
    refine lv_iload_n hx hb d_MO_memories_67 rfl (lv_at hl 3 rfl) ?_
    refine lv_bipush (v := 39) hx hb d_MO_memories_68 (by decide) ?_
    refine lv_icmp_lt (tgt := 84) hx hb d_MO_memories_70 (by decide) (fun q70 => ?_) (fun q70 => ?_)
    · have hp := hp.1 q70
      exact J84 w65_0 v65_4 _ _ _ w (lv_sub hl [0, 1, 2, 3, 4, 5] rfl) (by rw [← e65, f_MO_memories_65, if_pos q70]) hp
    · have hp := hp.2 q70
      refine lv_iload hx hb d_MO_memories_73 (lv_at hl 1 rfl) ?_
      refine lv_if_ne (tgt := 84) hx hb d_MO_memories_75 (by decide) (fun q75 => ?_) (fun q75 => ?_)
      · have hp := hp.2 q75
        exact J84 w65_0 v65_4 _ _ _ w (lv_sub hl [0, 1, 2, 3, 4, 5] rfl) (by rw [← e65, f_MO_memories_65, if_neg q70, if_neg q75]) hp
      · have hp := hp.1 q75
        refine lv_iload_n hx hb d_MO_memories_78 rfl (lv_at hl 3 rfl) ?_
        refine lv_bipush (v := 48) hx hb d_MO_memories_79 (by decide) ?_
        refine lv_icmp_ne (tgt := 88) hx hb d_MO_memories_81 (by decide) (fun q81 => ?_) (fun q81 => ?_)
        · have hp := hp.2 q81
          refine lv_iconst (v := 0) hx hb d_MO_memories_88 (by decide) ?_
          exact J89 w65_0 v65_4 false _ _ _ w (lv_sub hl [0, 1, 2, 3, 4, 5] rfl) (by rw [← e65, f_MO_memories_65, if_neg q70, if_pos q75, if_neg q81]) hp
        · have hp := hp.1 q81
          exact J84 w65_0 v65_4 _ _ _ w (lv_sub hl [0, 1, 2, 3, 4, 5] rfl) (by rw [← e65, f_MO_memories_65, if_neg q70, if_pos q75, if_pos q81]) hp
  have J60 : ∀ (v60_4 : Bool) (H : Heap) (locs : List Loc) (ls : Array Slot), Wd xCl E A s.heap H locs (mW E ad σ) → lv_has ls 10 [(4, .int (zb v60_4)), (0, .ref (ad 0)), (1, .int a1), (2, .int a2), (3, .int a3)] → zV (f_MO_memories_60 σ a1 a2 a3 v60_4) = Z → P_MO_memories_60 σ a1 a2 a3 v60_4 → W p l e (rmo 4 97) s m ([.ref (ad 0), .int a1, .int a2, .int a3] : List Value).toArray below meth c H locs 0 0 (MQ below (rQ xCl (mW E ad) E A Z) ([.ref (ad 0), .int a1, .int a2, .int a3] : List Value).toArray s 0 0 A) (F0 m 60 ls []) := by
    intro v60_4 H locs ls w hl e60 hp
    unfold P_MO_memories_60 at hp
    refine lv_iconst (v := 1) hx hb d_MO_memories_60 (by decide) ?_
    refine lv_goto (tgt := 65) hx hb d_MO_memories_61 (by decide) ?_
    exact J65 v60_4 true _ _ _ w (lv_sub hl [0, 1, 2, 3, 4] rfl) (by rw [← e60, f_MO_memories_60]) hp
  have J34 : ∀ (w34_0 : Bool) (H : Heap) (locs : List Loc) (ls : Array Slot), Wd xCl E A s.heap H locs (mW E ad σ) → lv_has ls 10 [(0, .ref (ad 0)), (1, .int a1), (2, .int a2), (3, .int a3)] → zV (f_MO_memories_34 σ a1 a2 a3 w34_0) = Z → P_MO_memories_34 σ a1 a2 a3 w34_0 → W p l e (rmo 4 97) s m ([.ref (ad 0), .int a1, .int a2, .int a3] : List Value).toArray below meth c H locs 0 0 (MQ below (rQ xCl (mW E ad) E A Z) ([.ref (ad 0), .int a1, .int a2, .int a3] : List Value).toArray s 0 0 A) (F0 m 34 ls [.int (zb w34_0)]) := by
    intro w34_0 H locs ls w hl e34 hp
    unfold P_MO_memories_34 at hp
    refine lv_istore (lv' := [(4, .int (zb w34_0)), (0, .ref (ad 0)), (1, .int a1), (2, .int a2), (3, .int a3)]) hx hb d_MO_memories_34 hl (by decide) rfl (fun ls hl => ?_)
    refine lv_iload_n hx hb d_MO_memories_36 rfl (lv_at hl 2 rfl) ?_
    refine lv_bipush (v := 34) hx hb d_MO_memories_37 (by decide) ?_
    refine lv_icmp_eq (tgt := 60) hx hb d_MO_memories_39 (by decide) (fun q39 => ?_) (fun q39 => ?_)
    · have hp := hp.1 q39
      exact J60 w34_0 _ _ _ w (lv_sub hl [0, 1, 2, 3, 4] rfl) (by rw [← e34, f_MO_memories_34, if_pos q39]) hp
    · have hp := hp.2 q39
      refine lv_iload_n hx hb d_MO_memories_42 rfl (lv_at hl 2 rfl) ?_
      refine lv_bipush (v := 38) hx hb d_MO_memories_43 (by decide) ?_
      refine lv_icmp_eq (tgt := 60) hx hb d_MO_memories_45 (by decide) (fun q45 => ?_) (fun q45 => ?_)
      · have hp := hp.1 q45
        exact J60 w34_0 _ _ _ w (lv_sub hl [0, 1, 2, 3, 4] rfl) (by rw [← e34, f_MO_memories_34, if_neg q39, if_pos q45]) hp
      · have hp := hp.2 q45
        refine lv_iload_n hx hb d_MO_memories_48 rfl (lv_at hl 2 rfl) ?_
        refine lv_bipush (v := 42) hx hb d_MO_memories_49 (by decide) ?_
        refine lv_icmp_eq (tgt := 60) hx hb d_MO_memories_51 (by decide) (fun q51 => ?_) (fun q51 => ?_)
        · have hp := hp.1 q51
          exact J60 w34_0 _ _ _ w (lv_sub hl [0, 1, 2, 3, 4] rfl) (by rw [← e34, f_MO_memories_34, if_neg q39, if_neg q45, if_pos q51]) hp
        · have hp := hp.2 q51
          refine lv_iload_n hx hb d_MO_memories_54 rfl (lv_at hl 2 rfl) ?_
          refine lv_bipush (v := 46) hx hb d_MO_memories_55 (by decide) ?_
          refine lv_icmp_ne (tgt := 64) hx hb d_MO_memories_57 (by decide) (fun q57 => ?_) (fun q57 => ?_)
          · have hp := hp.2 q57
            refine lv_iconst (v := 0) hx hb d_MO_memories_64 (by decide) ?_
            exact J65 w34_0 false _ _ _ w (lv_sub hl [0, 1, 2, 3, 4] rfl) (by rw [← e34, f_MO_memories_34, if_neg q39, if_neg q45, if_neg q51, if_neg q57]) hp
          · have hp := hp.1 q57
            exact J60 w34_0 _ _ _ w (lv_sub hl [0, 1, 2, 3, 4] rfl) (by rw [← e34, f_MO_memories_34, if_neg q39, if_neg q45, if_neg q51, if_pos q57]) hp
  have J29 : ∀ (H : Heap) (locs : List Loc) (ls : Array Slot), Wd xCl E A s.heap H locs (mW E ad σ) → lv_has ls 10 [(0, .ref (ad 0)), (1, .int a1), (2, .int a2), (3, .int a3)] → zV (f_MO_memories_29 σ a1 a2 a3) = Z → P_MO_memories_29 σ a1 a2 a3 → W p l e (rmo 4 97) s m ([.ref (ad 0), .int a1, .int a2, .int a3] : List Value).toArray below meth c H locs 0 0 (MQ below (rQ xCl (mW E ad) E A Z) ([.ref (ad 0), .int a1, .int a2, .int a3] : List Value).toArray s 0 0 A) (F0 m 29 ls []) := by
    intro  H locs ls w hl e29 hp
    unfold P_MO_memories_29 at hp
    refine lv_iconst (v := 1) hx hb d_MO_memories_29 (by decide) ?_
    refine lv_goto (tgt := 34) hx hb d_MO_memories_30 (by decide) ?_
    exact J34 true _ _ _ w (lv_sub hl [0, 1, 2, 3] rfl) (by rw [← e29, f_MO_memories_29]) hp
  have J23 : ∀ (H : Heap) (locs : List Loc) (ls : Array Slot), Wd xCl E A s.heap H locs (mW E ad σ) → lv_has ls 10 [(0, .ref (ad 0)), (1, .int a1), (2, .int a2), (3, .int a3)] → zV (f_MO_memories_23 σ a1 a2 a3) = Z → P_MO_memories_23 σ a1 a2 a3 → W p l e (rmo 4 97) s m ([.ref (ad 0), .int a1, .int a2, .int a3] : List Value).toArray below meth c H locs 0 0 (MQ below (rQ xCl (mW E ad) E A Z) ([.ref (ad 0), .int a1, .int a2, .int a3] : List Value).toArray s 0 0 A) (F0 m 23 ls []) := by
    intro  H locs ls w hl e23 hp
    unfold P_MO_memories_23 at hp
    refine lv_iload_n hx hb d_MO_memories_23 rfl (lv_at hl 1 rfl) ?_
    refine lv_bipush (v := 56) hx hb d_MO_memories_24 (by decide) ?_
    refine lv_icmp_ne (tgt := 33) hx hb d_MO_memories_26 (by decide) (fun q26 => ?_) (fun q26 => ?_)
    · have hp := hp.2 q26
      refine lv_iconst (v := 0) hx hb d_MO_memories_33 (by decide) ?_
      exact J34 false _ _ _ w (lv_sub hl [0, 1, 2, 3] rfl) (by rw [← e23, f_MO_memories_23, if_neg q26]) hp
    · have hp := hp.1 q26
      exact J29  _ _ _ w (lv_sub hl [0, 1, 2, 3] rfl) (by rw [← e23, f_MO_memories_23, if_pos q26]) hp
  unfold P_MO_memories at hp
  refine lv_iload_n hx hb d_MO_memories_0 rfl (lv_at hl 1 rfl) ?_
  refine lv_bipush (v := 40) hx hb d_MO_memories_1 (by decide) ?_
  refine lv_bipush (v := 46) hx hb d_MO_memories_3 (by decide) ?_
  refine rSZ (rest := []) hc w (c_MO_within l E ad σ a1 (40 : Int32) (46 : Int32)) ks_MO_within mw_976 ⟨Nat.le_of_ble_eq_true rfl, Nat.le_of_ble_eq_true rfl⟩ hl.1 rfl (Nat.le_of_ble_eq_true rfl) ⟨Nat.zero_le _, Nat.zero_le _⟩ d_MO_memories_5 (fun H locs w => ?_)
  refine lv_if_eq (tgt := 23) hx hb d_MO_memories_8 (by decide) (fun q8 => ?_) (fun q8 => ?_)
  · have hp := hp.1 q8
    exact J23  _ _ _ w (lv_sub hl [0, 1, 2, 3] rfl) (by rw [← e0, f_MO_memories, if_pos q8]) hp
  · have hp := hp.2 q8
    refine lv_iload_n hx hb d_MO_memories_11 rfl (lv_at hl 1 rfl) ?_
    refine lv_bipush (v := 44) hx hb d_MO_memories_12 (by decide) ?_
    refine lv_icmp_eq (tgt := 23) hx hb d_MO_memories_14 (by decide) (fun q14 => ?_) (fun q14 => ?_)
    · have hp := hp.1 q14
      exact J23  _ _ _ w (lv_sub hl [0, 1, 2, 3] rfl) (by rw [← e0, f_MO_memories, if_neg q8, if_pos q14]) hp
    · have hp := hp.2 q14
      refine lv_iload_n hx hb d_MO_memories_17 rfl (lv_at hl 1 rfl) ?_
      refine lv_bipush (v := 45) hx hb d_MO_memories_18 (by decide) ?_
      refine lv_icmp_ne (tgt := 29) hx hb d_MO_memories_20 (by decide) (fun q20 => ?_) (fun q20 => ?_)
      · have hp := hp.2 q20
        exact J29  _ _ _ w (lv_sub hl [0, 1, 2, 3] rfl) (by rw [← e0, f_MO_memories, if_neg q8, if_neg q14, if_neg q20]) hp
      · have hp := hp.1 q20
        exact J23  _ _ _ w (lv_sub hl [0, 1, 2, 3] rfl) (by rw [← e0, f_MO_memories, if_neg q8, if_neg q14, if_pos q20]) hp
-- MO_perform
def f_MO_perform_c8 (z108 : MS) (a1 : Int32)  : MS := z108
def f_MO_perform_99 (σ : MS) (a1 : Int32) (v99_7 : Int32) (v99_6 : Int32) (v99_5 : Int32) (v99_2 : Int32) : MS := f_MO_perform_c8 (f_MO_branches σ a1 v99_2 v99_5 v99_6 v99_7) a1 
def f_MO_perform_c7 (z152 : MS) (a1 : Int32)  : MS := z152
def f_MO_perform_146 (σ : MS) (a1 : Int32) (v146_4 : Int32) (v146_3 : Int32) (v146_2 : Int32) : MS := f_MO_perform_c7 (f_MO_system σ a1 v146_2 v146_3 v146_4) a1 
def f_MO_perform_c6 (z58 : MS) (a1 : Int32)  : MS := z58
def f_MO_perform_c5 (z76 : MS) (a1 : Int32)  : MS := z76
def f_MO_perform_c4 (z128 : MS) (a1 : Int32)  : MS := z128
def f_MO_perform_c3 (z170 : MS) (a1 : Int32)  : MS := z170
def f_MO_perform_c2 (z191 : MS) (a1 : Int32)  : MS := z191
def f_MO_perform_c1 (z199 : MS) (a1 : Int32)  : MS := z199
def f_MO_perform (σ : MS) (a1 : Int32) : MS := if ((Int32.toUInt32 a1 >>> (Int32.toUInt32 (26 : Int32) &&& Int32.toUInt32 31)).toInt32) = 0 then (f_MO_perform_c6 (f_MO_special σ a1 (m_r σ (Int32.toNatClampNeg ((a1 >>> ((21 : Int32) &&& 31)) &&& (31 : Int32)))) (m_r σ (Int32.toNatClampNeg ((a1 >>> ((16 : Int32) &&& 31)) &&& (31 : Int32))))) a1 ) else (if ((Int32.toUInt32 a1 >>> (Int32.toUInt32 (26 : Int32) &&& Int32.toUInt32 31)).toInt32) = (1 : Int32) then (f_MO_perform_c5 (f_MO_byRegister σ ((a1 >>> ((16 : Int32) &&& 31)) &&& (31 : Int32)) (m_r σ (Int32.toNatClampNeg ((a1 >>> ((21 : Int32) &&& 31)) &&& (31 : Int32)))) ((a1 <<< ((16 : Int32) &&& 31)) >>> ((16 : Int32) &&& 31))) a1 ) else (if ((Int32.toUInt32 a1 >>> (Int32.toUInt32 (26 : Int32) &&& Int32.toUInt32 31)).toInt32) < (8 : Int32) then (f_MO_perform_99 σ a1 ((a1 <<< ((16 : Int32) &&& 31)) >>> ((16 : Int32) &&& 31)) (m_r σ (Int32.toNatClampNeg ((a1 >>> ((16 : Int32) &&& 31)) &&& (31 : Int32)))) (m_r σ (Int32.toNatClampNeg ((a1 >>> ((21 : Int32) &&& 31)) &&& (31 : Int32)))) ((Int32.toUInt32 a1 >>> (Int32.toUInt32 (26 : Int32) &&& Int32.toUInt32 31)).toInt32)) else (if (zb (f_MO_within σ ((Int32.toUInt32 a1 >>> (Int32.toUInt32 (26 : Int32) &&& Int32.toUInt32 31)).toInt32) (20 : Int32) (23 : Int32))) = 0 then (if (16 : Int32) ≤ ((Int32.toUInt32 a1 >>> (Int32.toUInt32 (26 : Int32) &&& Int32.toUInt32 31)).toInt32) then (if ((Int32.toUInt32 a1 >>> (Int32.toUInt32 (26 : Int32) &&& Int32.toUInt32 31)).toInt32) = (16 : Int32) then (f_MO_perform_146 σ a1 ((a1 >>> ((16 : Int32) &&& 31)) &&& (31 : Int32)) ((a1 >>> ((21 : Int32) &&& 31)) &&& (31 : Int32)) ((Int32.toUInt32 a1 >>> (Int32.toUInt32 (26 : Int32) &&& Int32.toUInt32 31)).toInt32)) else (if ((Int32.toUInt32 a1 >>> (Int32.toUInt32 (26 : Int32) &&& Int32.toUInt32 31)).toInt32) = (47 : Int32) then (f_MO_perform_146 σ a1 ((a1 >>> ((16 : Int32) &&& 31)) &&& (31 : Int32)) ((a1 >>> ((21 : Int32) &&& 31)) &&& (31 : Int32)) ((Int32.toUInt32 a1 >>> (Int32.toUInt32 (26 : Int32) &&& Int32.toUInt32 31)).toInt32)) else (if ((Int32.toUInt32 a1 >>> (Int32.toUInt32 (26 : Int32) &&& Int32.toUInt32 31)).toInt32) = (28 : Int32) then (f_MO_perform_c3 (f_MO_multiplies σ a1 (m_r σ (Int32.toNatClampNeg ((a1 >>> ((21 : Int32) &&& 31)) &&& (31 : Int32)))) (m_r σ (Int32.toNatClampNeg ((a1 >>> ((16 : Int32) &&& 31)) &&& (31 : Int32))))) a1 ) else (if ((Int32.toUInt32 a1 >>> (Int32.toUInt32 (26 : Int32) &&& Int32.toUInt32 31)).toInt32) < (32 : Int32) then (f_MO_perform_c1 (f_MO_other σ ((Int32.toUInt32 a1 >>> (Int32.toUInt32 (26 : Int32) &&& Int32.toUInt32 31)).toInt32)) a1 ) else (f_MO_perform_c2 (f_MO_memories σ ((Int32.toUInt32 a1 >>> (Int32.toUInt32 (26 : Int32) &&& Int32.toUInt32 31)).toInt32) ((a1 >>> ((16 : Int32) &&& 31)) &&& (31 : Int32)) ((m_r σ (Int32.toNatClampNeg ((a1 >>> ((21 : Int32) &&& 31)) &&& (31 : Int32)))) + ((a1 <<< ((16 : Int32) &&& 31)) >>> ((16 : Int32) &&& 31)))) a1 ))))) else (f_MO_perform_c4 (f_MO_immediate σ ((Int32.toUInt32 a1 >>> (Int32.toUInt32 (26 : Int32) &&& Int32.toUInt32 31)).toInt32) ((a1 >>> ((16 : Int32) &&& 31)) &&& (31 : Int32)) (m_r σ (Int32.toNatClampNeg ((a1 >>> ((21 : Int32) &&& 31)) &&& (31 : Int32)))) ((a1 <<< ((16 : Int32) &&& 31)) >>> ((16 : Int32) &&& 31))) a1 )) else (f_MO_perform_99 σ a1 ((a1 <<< ((16 : Int32) &&& 31)) >>> ((16 : Int32) &&& 31)) (m_r σ (Int32.toNatClampNeg ((a1 >>> ((16 : Int32) &&& 31)) &&& (31 : Int32)))) (m_r σ (Int32.toNatClampNeg ((a1 >>> ((21 : Int32) &&& 31)) &&& (31 : Int32)))) ((Int32.toUInt32 a1 >>> (Int32.toUInt32 (26 : Int32) &&& Int32.toUInt32 31)).toInt32)))))
def P_MO_perform_c8 (z108 : MS) (a1 : Int32)  : Prop := True
def P_MO_perform_99 (σ : MS) (a1 : Int32) (v99_7 : Int32) (v99_6 : Int32) (v99_5 : Int32) (v99_2 : Int32) : Prop := P_MO_perform_c8 (f_MO_branches σ a1 v99_2 v99_5 v99_6 v99_7) a1 
def P_MO_perform_c7 (z152 : MS) (a1 : Int32)  : Prop := True
def P_MO_perform_146 (σ : MS) (a1 : Int32) (v146_4 : Int32) (v146_3 : Int32) (v146_2 : Int32) : Prop := P_MO_system σ a1 v146_2 v146_3 v146_4 ∧ P_MO_perform_c7 (f_MO_system σ a1 v146_2 v146_3 v146_4) a1 
def P_MO_perform_c6 (z58 : MS) (a1 : Int32)  : Prop := True
def P_MO_perform_c5 (z76 : MS) (a1 : Int32)  : Prop := True
def P_MO_perform_c4 (z128 : MS) (a1 : Int32)  : Prop := True
def P_MO_perform_c3 (z170 : MS) (a1 : Int32)  : Prop := True
def P_MO_perform_c2 (z191 : MS) (a1 : Int32)  : Prop := True
def P_MO_perform_c1 (z199 : MS) (a1 : Int32)  : Prop := True
def P_MO_perform (σ : MS) (a1 : Int32) : Prop := ((((Int32.toUInt32 a1 >>> (Int32.toUInt32 (26 : Int32) &&& Int32.toUInt32 31)).toInt32) = 0) → (P_MO_special σ a1 (m_r σ (Int32.toNatClampNeg ((a1 >>> ((21 : Int32) &&& 31)) &&& (31 : Int32)))) (m_r σ (Int32.toNatClampNeg ((a1 >>> ((16 : Int32) &&& 31)) &&& (31 : Int32)))) ∧ P_MO_perform_c6 (f_MO_special σ a1 (m_r σ (Int32.toNatClampNeg ((a1 >>> ((21 : Int32) &&& 31)) &&& (31 : Int32)))) (m_r σ (Int32.toNatClampNeg ((a1 >>> ((16 : Int32) &&& 31)) &&& (31 : Int32))))) a1 )) ∧ (¬ (((Int32.toUInt32 a1 >>> (Int32.toUInt32 (26 : Int32) &&& Int32.toUInt32 31)).toInt32) = 0) → (((((Int32.toUInt32 a1 >>> (Int32.toUInt32 (26 : Int32) &&& Int32.toUInt32 31)).toInt32) = (1 : Int32)) → (P_MO_perform_c5 (f_MO_byRegister σ ((a1 >>> ((16 : Int32) &&& 31)) &&& (31 : Int32)) (m_r σ (Int32.toNatClampNeg ((a1 >>> ((21 : Int32) &&& 31)) &&& (31 : Int32)))) ((a1 <<< ((16 : Int32) &&& 31)) >>> ((16 : Int32) &&& 31))) a1 )) ∧ (¬ (((Int32.toUInt32 a1 >>> (Int32.toUInt32 (26 : Int32) &&& Int32.toUInt32 31)).toInt32) = (1 : Int32)) → (((((Int32.toUInt32 a1 >>> (Int32.toUInt32 (26 : Int32) &&& Int32.toUInt32 31)).toInt32) < (8 : Int32)) → (P_MO_perform_99 σ a1 ((a1 <<< ((16 : Int32) &&& 31)) >>> ((16 : Int32) &&& 31)) (m_r σ (Int32.toNatClampNeg ((a1 >>> ((16 : Int32) &&& 31)) &&& (31 : Int32)))) (m_r σ (Int32.toNatClampNeg ((a1 >>> ((21 : Int32) &&& 31)) &&& (31 : Int32)))) ((Int32.toUInt32 a1 >>> (Int32.toUInt32 (26 : Int32) &&& Int32.toUInt32 31)).toInt32))) ∧ (¬ (((Int32.toUInt32 a1 >>> (Int32.toUInt32 (26 : Int32) &&& Int32.toUInt32 31)).toInt32) < (8 : Int32)) → ((((zb (f_MO_within σ ((Int32.toUInt32 a1 >>> (Int32.toUInt32 (26 : Int32) &&& Int32.toUInt32 31)).toInt32) (20 : Int32) (23 : Int32))) = 0) → ((((16 : Int32) ≤ ((Int32.toUInt32 a1 >>> (Int32.toUInt32 (26 : Int32) &&& Int32.toUInt32 31)).toInt32)) → (((((Int32.toUInt32 a1 >>> (Int32.toUInt32 (26 : Int32) &&& Int32.toUInt32 31)).toInt32) = (16 : Int32)) → (P_MO_perform_146 σ a1 ((a1 >>> ((16 : Int32) &&& 31)) &&& (31 : Int32)) ((a1 >>> ((21 : Int32) &&& 31)) &&& (31 : Int32)) ((Int32.toUInt32 a1 >>> (Int32.toUInt32 (26 : Int32) &&& Int32.toUInt32 31)).toInt32))) ∧ (¬ (((Int32.toUInt32 a1 >>> (Int32.toUInt32 (26 : Int32) &&& Int32.toUInt32 31)).toInt32) = (16 : Int32)) → (((((Int32.toUInt32 a1 >>> (Int32.toUInt32 (26 : Int32) &&& Int32.toUInt32 31)).toInt32) = (47 : Int32)) → (P_MO_perform_146 σ a1 ((a1 >>> ((16 : Int32) &&& 31)) &&& (31 : Int32)) ((a1 >>> ((21 : Int32) &&& 31)) &&& (31 : Int32)) ((Int32.toUInt32 a1 >>> (Int32.toUInt32 (26 : Int32) &&& Int32.toUInt32 31)).toInt32))) ∧ (¬ (((Int32.toUInt32 a1 >>> (Int32.toUInt32 (26 : Int32) &&& Int32.toUInt32 31)).toInt32) = (47 : Int32)) → (((((Int32.toUInt32 a1 >>> (Int32.toUInt32 (26 : Int32) &&& Int32.toUInt32 31)).toInt32) = (28 : Int32)) → (P_MO_multiplies σ a1 (m_r σ (Int32.toNatClampNeg ((a1 >>> ((21 : Int32) &&& 31)) &&& (31 : Int32)))) (m_r σ (Int32.toNatClampNeg ((a1 >>> ((16 : Int32) &&& 31)) &&& (31 : Int32)))) ∧ P_MO_perform_c3 (f_MO_multiplies σ a1 (m_r σ (Int32.toNatClampNeg ((a1 >>> ((21 : Int32) &&& 31)) &&& (31 : Int32)))) (m_r σ (Int32.toNatClampNeg ((a1 >>> ((16 : Int32) &&& 31)) &&& (31 : Int32))))) a1 )) ∧ (¬ (((Int32.toUInt32 a1 >>> (Int32.toUInt32 (26 : Int32) &&& Int32.toUInt32 31)).toInt32) = (28 : Int32)) → (((((Int32.toUInt32 a1 >>> (Int32.toUInt32 (26 : Int32) &&& Int32.toUInt32 31)).toInt32) < (32 : Int32)) → (P_MO_perform_c1 (f_MO_other σ ((Int32.toUInt32 a1 >>> (Int32.toUInt32 (26 : Int32) &&& Int32.toUInt32 31)).toInt32)) a1 )) ∧ (¬ (((Int32.toUInt32 a1 >>> (Int32.toUInt32 (26 : Int32) &&& Int32.toUInt32 31)).toInt32) < (32 : Int32)) → (P_MO_memories σ ((Int32.toUInt32 a1 >>> (Int32.toUInt32 (26 : Int32) &&& Int32.toUInt32 31)).toInt32) ((a1 >>> ((16 : Int32) &&& 31)) &&& (31 : Int32)) ((m_r σ (Int32.toNatClampNeg ((a1 >>> ((21 : Int32) &&& 31)) &&& (31 : Int32)))) + ((a1 <<< ((16 : Int32) &&& 31)) >>> ((16 : Int32) &&& 31))) ∧ P_MO_perform_c2 (f_MO_memories σ ((Int32.toUInt32 a1 >>> (Int32.toUInt32 (26 : Int32) &&& Int32.toUInt32 31)).toInt32) ((a1 >>> ((16 : Int32) &&& 31)) &&& (31 : Int32)) ((m_r σ (Int32.toNatClampNeg ((a1 >>> ((21 : Int32) &&& 31)) &&& (31 : Int32)))) + ((a1 <<< ((16 : Int32) &&& 31)) >>> ((16 : Int32) &&& 31)))) a1 )))))))))) ∧ (¬ ((16 : Int32) ≤ ((Int32.toUInt32 a1 >>> (Int32.toUInt32 (26 : Int32) &&& Int32.toUInt32 31)).toInt32)) → (P_MO_perform_c4 (f_MO_immediate σ ((Int32.toUInt32 a1 >>> (Int32.toUInt32 (26 : Int32) &&& Int32.toUInt32 31)).toInt32) ((a1 >>> ((16 : Int32) &&& 31)) &&& (31 : Int32)) (m_r σ (Int32.toNatClampNeg ((a1 >>> ((21 : Int32) &&& 31)) &&& (31 : Int32)))) ((a1 <<< ((16 : Int32) &&& 31)) >>> ((16 : Int32) &&& 31))) a1 )))) ∧ (¬ ((zb (f_MO_within σ ((Int32.toUInt32 a1 >>> (Int32.toUInt32 (26 : Int32) &&& Int32.toUInt32 31)).toInt32) (20 : Int32) (23 : Int32))) = 0) → (P_MO_perform_99 σ a1 ((a1 <<< ((16 : Int32) &&& 31)) >>> ((16 : Int32) &&& 31)) (m_r σ (Int32.toNatClampNeg ((a1 >>> ((16 : Int32) &&& 31)) &&& (31 : Int32)))) (m_r σ (Int32.toNatClampNeg ((a1 >>> ((21 : Int32) &&& 31)) &&& (31 : Int32)))) ((Int32.toUInt32 a1 >>> (Int32.toUInt32 (26 : Int32) &&& Int32.toUInt32 31)).toInt32)))))))))
theorem d_MO_perform_0 : decode b_MO_perform 0 = .ok (.iload_n 1, 1) := by decide +kernel
theorem d_MO_perform_1 : decode b_MO_perform 1 = .ok (.bipush 26, 2) := by decide +kernel
theorem d_MO_perform_3 : decode b_MO_perform 3 = .ok (.iushr, 1) := by decide +kernel
theorem d_MO_perform_4 : decode b_MO_perform 4 = .ok (.istore_n 2, 1) := by decide +kernel
theorem d_MO_perform_5 : decode b_MO_perform 5 = .ok (.iload_n 1, 1) := by decide +kernel
theorem d_MO_perform_6 : decode b_MO_perform 6 = .ok (.bipush 21, 2) := by decide +kernel
theorem d_MO_perform_8 : decode b_MO_perform 8 = .ok (.ishr, 1) := by decide +kernel
theorem d_MO_perform_9 : decode b_MO_perform 9 = .ok (.bipush 31, 2) := by decide +kernel
theorem d_MO_perform_11 : decode b_MO_perform 11 = .ok (.iand, 1) := by decide +kernel
theorem d_MO_perform_12 : decode b_MO_perform 12 = .ok (.istore_n 3, 1) := by decide +kernel
theorem d_MO_perform_13 : decode b_MO_perform 13 = .ok (.iload_n 1, 1) := by decide +kernel
theorem d_MO_perform_14 : decode b_MO_perform 14 = .ok (.bipush 16, 2) := by decide +kernel
theorem d_MO_perform_16 : decode b_MO_perform 16 = .ok (.ishr, 1) := by decide +kernel
theorem d_MO_perform_17 : decode b_MO_perform 17 = .ok (.bipush 31, 2) := by decide +kernel
theorem d_MO_perform_19 : decode b_MO_perform 19 = .ok (.iand, 1) := by decide +kernel
theorem d_MO_perform_20 : decode b_MO_perform 20 = .ok (.istore 4, 2) := by decide +kernel
theorem d_MO_perform_22 : decode b_MO_perform 22 = .ok (.aload_n 0, 1) := by decide +kernel
theorem d_MO_perform_23 : decode b_MO_perform 23 = .ok (.getfield 14, 3) := by decide +kernel
theorem d_MO_perform_26 : decode b_MO_perform 26 = .ok (.iload_n 3, 1) := by decide +kernel
theorem d_MO_perform_27 : decode b_MO_perform 27 = .ok (.iaload, 1) := by decide +kernel
theorem d_MO_perform_28 : decode b_MO_perform 28 = .ok (.istore 5, 2) := by decide +kernel
theorem d_MO_perform_30 : decode b_MO_perform 30 = .ok (.aload_n 0, 1) := by decide +kernel
theorem d_MO_perform_31 : decode b_MO_perform 31 = .ok (.getfield 14, 3) := by decide +kernel
theorem d_MO_perform_34 : decode b_MO_perform 34 = .ok (.iload 4, 2) := by decide +kernel
theorem d_MO_perform_36 : decode b_MO_perform 36 = .ok (.iaload, 1) := by decide +kernel
theorem d_MO_perform_37 : decode b_MO_perform 37 = .ok (.istore 6, 2) := by decide +kernel
theorem d_MO_perform_39 : decode b_MO_perform 39 = .ok (.iload_n 1, 1) := by decide +kernel
theorem d_MO_perform_40 : decode b_MO_perform 40 = .ok (.bipush 16, 2) := by decide +kernel
theorem d_MO_perform_42 : decode b_MO_perform 42 = .ok (.ishl, 1) := by decide +kernel
theorem d_MO_perform_43 : decode b_MO_perform 43 = .ok (.bipush 16, 2) := by decide +kernel
theorem d_MO_perform_45 : decode b_MO_perform 45 = .ok (.ishr, 1) := by decide +kernel
theorem d_MO_perform_46 : decode b_MO_perform 46 = .ok (.istore 7, 2) := by decide +kernel
theorem d_MO_perform_48 : decode b_MO_perform 48 = .ok (.iload_n 2, 1) := by decide +kernel
theorem d_MO_perform_49 : decode b_MO_perform 49 = .ok (.ifCond .ne 15, 3) := by decide +kernel
theorem d_MO_perform_52 : decode b_MO_perform 52 = .ok (.aload_n 0, 1) := by decide +kernel
theorem d_MO_perform_53 : decode b_MO_perform 53 = .ok (.iload_n 1, 1) := by decide +kernel
theorem d_MO_perform_54 : decode b_MO_perform 54 = .ok (.iload 5, 2) := by decide +kernel
theorem d_MO_perform_56 : decode b_MO_perform 56 = .ok (.iload 6, 2) := by decide +kernel
theorem d_MO_perform_58 : decode b_MO_perform 58 = .ok (.invokevirtual 169, 3) := by decide +kernel
theorem d_MO_perform_61 : decode b_MO_perform 61 = .ok (.goto 141, 3) := by decide +kernel
theorem d_MO_perform_64 : decode b_MO_perform 64 = .ok (.iload_n 2, 1) := by decide +kernel
theorem d_MO_perform_65 : decode b_MO_perform 65 = .ok (.iconst 1, 1) := by decide +kernel
theorem d_MO_perform_66 : decode b_MO_perform 66 = .ok (.if_icmp .ne 16, 3) := by decide +kernel
theorem d_MO_perform_69 : decode b_MO_perform 69 = .ok (.aload_n 0, 1) := by decide +kernel
theorem d_MO_perform_70 : decode b_MO_perform 70 = .ok (.iload 4, 2) := by decide +kernel
theorem d_MO_perform_72 : decode b_MO_perform 72 = .ok (.iload 5, 2) := by decide +kernel
theorem d_MO_perform_74 : decode b_MO_perform 74 = .ok (.iload 7, 2) := by decide +kernel
theorem d_MO_perform_76 : decode b_MO_perform 76 = .ok (.invokevirtual 173, 3) := by decide +kernel
theorem d_MO_perform_79 : decode b_MO_perform 79 = .ok (.goto 123, 3) := by decide +kernel
theorem d_MO_perform_82 : decode b_MO_perform 82 = .ok (.iload_n 2, 1) := by decide +kernel
theorem d_MO_perform_83 : decode b_MO_perform 83 = .ok (.bipush 8, 2) := by decide +kernel
theorem d_MO_perform_85 : decode b_MO_perform 85 = .ok (.if_icmp .lt 14, 3) := by decide +kernel
theorem d_MO_perform_88 : decode b_MO_perform 88 = .ok (.iload_n 2, 1) := by decide +kernel
theorem d_MO_perform_89 : decode b_MO_perform 89 = .ok (.bipush 20, 2) := by decide +kernel
theorem d_MO_perform_91 : decode b_MO_perform 91 = .ok (.bipush 23, 2) := by decide +kernel
theorem d_MO_perform_93 : decode b_MO_perform 93 = .ok (.invokestatic 56, 3) := by decide +kernel
theorem d_MO_perform_96 : decode b_MO_perform 96 = .ok (.ifCond .eq 18, 3) := by decide +kernel
theorem d_MO_perform_99 : decode b_MO_perform 99 = .ok (.aload_n 0, 1) := by decide +kernel
theorem d_MO_perform_100 : decode b_MO_perform 100 = .ok (.iload_n 1, 1) := by decide +kernel
theorem d_MO_perform_101 : decode b_MO_perform 101 = .ok (.iload_n 2, 1) := by decide +kernel
theorem d_MO_perform_102 : decode b_MO_perform 102 = .ok (.iload 5, 2) := by decide +kernel
theorem d_MO_perform_104 : decode b_MO_perform 104 = .ok (.iload 6, 2) := by decide +kernel
theorem d_MO_perform_106 : decode b_MO_perform 106 = .ok (.iload 7, 2) := by decide +kernel
theorem d_MO_perform_108 : decode b_MO_perform 108 = .ok (.invokevirtual 176, 3) := by decide +kernel
theorem d_MO_perform_111 : decode b_MO_perform 111 = .ok (.goto 91, 3) := by decide +kernel
theorem d_MO_perform_114 : decode b_MO_perform 114 = .ok (.iload_n 2, 1) := by decide +kernel
theorem d_MO_perform_115 : decode b_MO_perform 115 = .ok (.bipush 16, 2) := by decide +kernel
theorem d_MO_perform_117 : decode b_MO_perform 117 = .ok (.if_icmp .ge 17, 3) := by decide +kernel
theorem d_MO_perform_120 : decode b_MO_perform 120 = .ok (.aload_n 0, 1) := by decide +kernel
theorem d_MO_perform_121 : decode b_MO_perform 121 = .ok (.iload_n 2, 1) := by decide +kernel
theorem d_MO_perform_122 : decode b_MO_perform 122 = .ok (.iload 4, 2) := by decide +kernel
theorem d_MO_perform_124 : decode b_MO_perform 124 = .ok (.iload 5, 2) := by decide +kernel
theorem d_MO_perform_126 : decode b_MO_perform 126 = .ok (.iload 7, 2) := by decide +kernel
theorem d_MO_perform_128 : decode b_MO_perform 128 = .ok (.invokevirtual 180, 3) := by decide +kernel
theorem d_MO_perform_131 : decode b_MO_perform 131 = .ok (.goto 71, 3) := by decide +kernel
theorem d_MO_perform_134 : decode b_MO_perform 134 = .ok (.iload_n 2, 1) := by decide +kernel
theorem d_MO_perform_135 : decode b_MO_perform 135 = .ok (.bipush 16, 2) := by decide +kernel
theorem d_MO_perform_137 : decode b_MO_perform 137 = .ok (.if_icmp .eq 9, 3) := by decide +kernel
theorem d_MO_perform_140 : decode b_MO_perform 140 = .ok (.iload_n 2, 1) := by decide +kernel
theorem d_MO_perform_141 : decode b_MO_perform 141 = .ok (.bipush 47, 2) := by decide +kernel
theorem d_MO_perform_143 : decode b_MO_perform 143 = .ok (.if_icmp .ne 15, 3) := by decide +kernel
theorem d_MO_perform_146 : decode b_MO_perform 146 = .ok (.aload_n 0, 1) := by decide +kernel
theorem d_MO_perform_147 : decode b_MO_perform 147 = .ok (.iload_n 1, 1) := by decide +kernel
theorem d_MO_perform_148 : decode b_MO_perform 148 = .ok (.iload_n 2, 1) := by decide +kernel
theorem d_MO_perform_149 : decode b_MO_perform 149 = .ok (.iload_n 3, 1) := by decide +kernel
theorem d_MO_perform_150 : decode b_MO_perform 150 = .ok (.iload 4, 2) := by decide +kernel
theorem d_MO_perform_152 : decode b_MO_perform 152 = .ok (.invokevirtual 184, 3) := by decide +kernel
theorem d_MO_perform_155 : decode b_MO_perform 155 = .ok (.goto 47, 3) := by decide +kernel
theorem d_MO_perform_158 : decode b_MO_perform 158 = .ok (.iload_n 2, 1) := by decide +kernel
theorem d_MO_perform_159 : decode b_MO_perform 159 = .ok (.bipush 28, 2) := by decide +kernel
theorem d_MO_perform_161 : decode b_MO_perform 161 = .ok (.if_icmp .ne 15, 3) := by decide +kernel
theorem d_MO_perform_164 : decode b_MO_perform 164 = .ok (.aload_n 0, 1) := by decide +kernel
theorem d_MO_perform_165 : decode b_MO_perform 165 = .ok (.iload_n 1, 1) := by decide +kernel
theorem d_MO_perform_166 : decode b_MO_perform 166 = .ok (.iload 5, 2) := by decide +kernel
theorem d_MO_perform_168 : decode b_MO_perform 168 = .ok (.iload 6, 2) := by decide +kernel
theorem d_MO_perform_170 : decode b_MO_perform 170 = .ok (.invokevirtual 187, 3) := by decide +kernel
theorem d_MO_perform_173 : decode b_MO_perform 173 = .ok (.goto 29, 3) := by decide +kernel
theorem d_MO_perform_176 : decode b_MO_perform 176 = .ok (.iload_n 2, 1) := by decide +kernel
theorem d_MO_perform_177 : decode b_MO_perform 177 = .ok (.bipush 32, 2) := by decide +kernel
theorem d_MO_perform_179 : decode b_MO_perform 179 = .ok (.if_icmp .lt 18, 3) := by decide +kernel
theorem d_MO_perform_182 : decode b_MO_perform 182 = .ok (.aload_n 0, 1) := by decide +kernel
theorem d_MO_perform_183 : decode b_MO_perform 183 = .ok (.iload_n 2, 1) := by decide +kernel
theorem d_MO_perform_184 : decode b_MO_perform 184 = .ok (.iload 4, 2) := by decide +kernel
theorem d_MO_perform_186 : decode b_MO_perform 186 = .ok (.iload 5, 2) := by decide +kernel
theorem d_MO_perform_188 : decode b_MO_perform 188 = .ok (.iload 7, 2) := by decide +kernel
theorem d_MO_perform_190 : decode b_MO_perform 190 = .ok (.iadd, 1) := by decide +kernel
theorem d_MO_perform_191 : decode b_MO_perform 191 = .ok (.invokevirtual 190, 3) := by decide +kernel
theorem d_MO_perform_194 : decode b_MO_perform 194 = .ok (.goto 8, 3) := by decide +kernel
theorem d_MO_perform_197 : decode b_MO_perform 197 = .ok (.aload_n 0, 1) := by decide +kernel
theorem d_MO_perform_198 : decode b_MO_perform 198 = .ok (.iload_n 2, 1) := by decide +kernel
theorem d_MO_perform_199 : decode b_MO_perform 199 = .ok (.invokevirtual 193, 3) := by decide +kernel
theorem d_MO_perform_202 : decode b_MO_perform 202 = .ok (.return_, 1) := by decide +kernel
set_option maxHeartbeats 4000000 in
set_option maxRecDepth 100000 in
theorem c_MO_perform (l : Launch) (E : Ev) (ad : Nat → Nat) (σ : MS) (a1 : Int32) (hp : P_MO_perform σ a1) : rC xCl l E (mW E ad) y_MO_perform b_MO_perform 8 (Option.none : Option Jvm.ClassFile.FieldType) (rmo 5 126) [.ref (ad 0), .int a1] σ (zV (f_MO_perform σ a1)) := by
  refine rC.of (by decide) (Nat.le_of_ble_eq_true rfl) ?_
  intro p e s m below meth c A ls hc w hl
  generalize e0 : zV (f_MO_perform σ a1) = Z
  have hc : Cx xCl E A p s m ([.ref (ad 0), .int a1] : List Value).toArray meth c b_MO_perform 8 (Option.none : Option Jvm.ClassFile.FieldType) "PageMachineModel" := hc
  have hx := hc.1
  have hb := hc.2.1
  have ho := hc.2.2.2.2.2.1
  have hT := hc.2.2.2.2.2.2.1
  have hl : lv_has ls 8 [(0, .ref (ad 0)), (1, .int a1)] := hl
  have J99 : ∀ (v99_7 : Int32) (v99_6 : Int32) (v99_5 : Int32) (v99_2 : Int32) (H : Heap) (locs : List Loc) (ls : Array Slot), Wd xCl E A s.heap H locs (mW E ad σ) → lv_has ls 8 [(7, .int v99_7), (6, .int v99_6), (5, .int v99_5), (2, .int v99_2), (0, .ref (ad 0)), (1, .int a1)] → zV (f_MO_perform_99 σ a1 v99_7 v99_6 v99_5 v99_2) = Z → P_MO_perform_99 σ a1 v99_7 v99_6 v99_5 v99_2 → W p l e (rmo 5 126) s m ([.ref (ad 0), .int a1] : List Value).toArray below meth c H locs 0 0 (MQ below (rQ xCl (mW E ad) E A Z) ([.ref (ad 0), .int a1] : List Value).toArray s 0 0 A) (F0 m 99 ls []) := by
    intro v99_7 v99_6 v99_5 v99_2 H locs ls w hl e99 hp
    unfold P_MO_perform_99 at hp
    refine lv_aload_n hx hb d_MO_perform_99 rfl (lv_at hl 4 rfl) ?_
    refine lv_iload_n hx hb d_MO_perform_100 rfl (lv_at hl 5 rfl) ?_
    refine lv_iload_n hx hb d_MO_perform_101 rfl (lv_at hl 3 rfl) ?_
    refine lv_iload hx hb d_MO_perform_102 (lv_at hl 2 rfl) ?_
    refine lv_iload hx hb d_MO_perform_104 (lv_at hl 1 rfl) ?_
    refine lv_iload hx hb d_MO_perform_106 (lv_at hl 0 rfl) ?_
    refine cVV (rest := []) hc w (c_MO_branches l E ad σ a1 v99_2 v99_5 v99_6 v99_7) kv_MO_branches mw_1122 0 rfl rfl ⟨Nat.le_of_ble_eq_true rfl, Nat.le_of_ble_eq_true rfl⟩ hl.1 rfl (Nat.le_of_ble_eq_true rfl) ⟨Nat.zero_le _, Nat.zero_le _⟩ d_MO_perform_108 (fun z108 H locs hs108 w => ?_)
    rw [hs108] at hp
    unfold P_MO_perform_c8 at hp
    have e_c8 : zV (f_MO_perform_c8 z108 a1 ) = Z := by rw [← e99, f_MO_perform_99, hs108]
    refine lv_goto (tgt := 202) hx hb d_MO_perform_111 (by decide) ?_
    exact rt_v hc w d_MO_perform_202 (by rw [← e_c8, f_MO_perform_c8] <;> rfl)
  have J146 : ∀ (v146_4 : Int32) (v146_3 : Int32) (v146_2 : Int32) (H : Heap) (locs : List Loc) (ls : Array Slot), Wd xCl E A s.heap H locs (mW E ad σ) → lv_has ls 8 [(4, .int v146_4), (3, .int v146_3), (2, .int v146_2), (0, .ref (ad 0)), (1, .int a1)] → zV (f_MO_perform_146 σ a1 v146_4 v146_3 v146_2) = Z → P_MO_perform_146 σ a1 v146_4 v146_3 v146_2 → W p l e (rmo 5 126) s m ([.ref (ad 0), .int a1] : List Value).toArray below meth c H locs 0 0 (MQ below (rQ xCl (mW E ad) E A Z) ([.ref (ad 0), .int a1] : List Value).toArray s 0 0 A) (F0 m 146 ls []) := by
    intro v146_4 v146_3 v146_2 H locs ls w hl e146 hp
    unfold P_MO_perform_146 at hp
    refine lv_aload_n hx hb d_MO_perform_146 rfl (lv_at hl 3 rfl) ?_
    refine lv_iload_n hx hb d_MO_perform_147 rfl (lv_at hl 4 rfl) ?_
    refine lv_iload_n hx hb d_MO_perform_148 rfl (lv_at hl 2 rfl) ?_
    refine lv_iload_n hx hb d_MO_perform_149 rfl (lv_at hl 1 rfl) ?_
    refine lv_iload hx hb d_MO_perform_150 (lv_at hl 0 rfl) ?_
    obtain ⟨hP152, hp⟩ := hp
    refine cVV (rest := []) hc w (c_MO_system l E ad σ a1 v146_2 v146_3 v146_4 hP152) kv_MO_system mw_1132 0 rfl rfl ⟨Nat.le_of_ble_eq_true rfl, Nat.le_of_ble_eq_true rfl⟩ hl.1 rfl (Nat.le_of_ble_eq_true rfl) ⟨Nat.zero_le _, Nat.zero_le _⟩ d_MO_perform_152 (fun z152 H locs hs152 w => ?_)
    rw [hs152] at hp
    unfold P_MO_perform_c7 at hp
    have e_c7 : zV (f_MO_perform_c7 z152 a1 ) = Z := by rw [← e146, f_MO_perform_146, hs152]
    refine lv_goto (tgt := 202) hx hb d_MO_perform_155 (by decide) ?_
    exact rt_v hc w d_MO_perform_202 (by rw [← e_c7, f_MO_perform_c7] <;> rfl)
  unfold P_MO_perform at hp
  refine lv_iload_n hx hb d_MO_perform_0 rfl (lv_at hl 1 rfl) ?_
  refine lv_bipush (v := 26) hx hb d_MO_perform_1 (by decide) ?_
  refine lv_iushr hx hb d_MO_perform_3 rfl ?_
  refine lv_istore_n (lv' := [(2, .int ((Int32.toUInt32 a1 >>> (Int32.toUInt32 (26 : Int32) &&& Int32.toUInt32 31)).toInt32)), (0, .ref (ad 0)), (1, .int a1)]) hx hb d_MO_perform_4 rfl hl (by decide) rfl (fun ls hl => ?_)
  refine lv_iload_n hx hb d_MO_perform_5 rfl (lv_at hl 2 rfl) ?_
  refine lv_bipush (v := 21) hx hb d_MO_perform_6 (by decide) ?_
  refine lv_ishr hx hb d_MO_perform_8 ?_
  refine lv_bipush (v := 31) hx hb d_MO_perform_9 (by decide) ?_
  refine lv_iand hx hb d_MO_perform_11 ?_
  refine lv_istore_n (lv' := [(3, .int ((a1 >>> ((21 : Int32) &&& 31)) &&& (31 : Int32))), (2, .int ((Int32.toUInt32 a1 >>> (Int32.toUInt32 (26 : Int32) &&& Int32.toUInt32 31)).toInt32)), (0, .ref (ad 0)), (1, .int a1)]) hx hb d_MO_perform_12 rfl hl (by decide) rfl (fun ls hl => ?_)
  refine lv_iload_n hx hb d_MO_perform_13 rfl (lv_at hl 3 rfl) ?_
  refine lv_bipush (v := 16) hx hb d_MO_perform_14 (by decide) ?_
  refine lv_ishr hx hb d_MO_perform_16 ?_
  refine lv_bipush (v := 31) hx hb d_MO_perform_17 (by decide) ?_
  refine lv_iand hx hb d_MO_perform_19 ?_
  refine lv_istore (lv' := [(4, .int ((a1 >>> ((16 : Int32) &&& 31)) &&& (31 : Int32))), (3, .int ((a1 >>> ((21 : Int32) &&& 31)) &&& (31 : Int32))), (2, .int ((Int32.toUInt32 a1 >>> (Int32.toUInt32 (26 : Int32) &&& Int32.toUInt32 31)).toInt32)), (0, .ref (ad 0)), (1, .int a1)]) hx hb d_MO_perform_20 hl (by decide) rfl (fun ls hl => ?_)
  refine lv_aload_n hx hb d_MO_perform_22 rfl (lv_at hl 3 rfl) ?_
  refine g_MO_r hc w mw_888 d_MO_perform_23 ?_
  refine lv_iload_n hx hb d_MO_perform_26 rfl (lv_at hl 1 rfl) ?_
  refine a_MO_r hc w (bd31 _) d_MO_perform_27 ?_
  refine lv_istore (lv' := [(5, .int (m_r σ (Int32.toNatClampNeg ((a1 >>> ((21 : Int32) &&& 31)) &&& (31 : Int32))))), (4, .int ((a1 >>> ((16 : Int32) &&& 31)) &&& (31 : Int32))), (3, .int ((a1 >>> ((21 : Int32) &&& 31)) &&& (31 : Int32))), (2, .int ((Int32.toUInt32 a1 >>> (Int32.toUInt32 (26 : Int32) &&& Int32.toUInt32 31)).toInt32)), (0, .ref (ad 0)), (1, .int a1)]) hx hb d_MO_perform_28 hl (by decide) rfl (fun ls hl => ?_)
  refine lv_aload_n hx hb d_MO_perform_30 rfl (lv_at hl 4 rfl) ?_
  refine g_MO_r hc w mw_888 d_MO_perform_31 ?_
  refine lv_iload hx hb d_MO_perform_34 (lv_at hl 1 rfl) ?_
  refine a_MO_r hc w (bd31 _) d_MO_perform_36 ?_
  refine lv_istore (lv' := [(6, .int (m_r σ (Int32.toNatClampNeg ((a1 >>> ((16 : Int32) &&& 31)) &&& (31 : Int32))))), (5, .int (m_r σ (Int32.toNatClampNeg ((a1 >>> ((21 : Int32) &&& 31)) &&& (31 : Int32))))), (4, .int ((a1 >>> ((16 : Int32) &&& 31)) &&& (31 : Int32))), (3, .int ((a1 >>> ((21 : Int32) &&& 31)) &&& (31 : Int32))), (2, .int ((Int32.toUInt32 a1 >>> (Int32.toUInt32 (26 : Int32) &&& Int32.toUInt32 31)).toInt32)), (0, .ref (ad 0)), (1, .int a1)]) hx hb d_MO_perform_37 hl (by decide) rfl (fun ls hl => ?_)
  refine lv_iload_n hx hb d_MO_perform_39 rfl (lv_at hl 6 rfl) ?_
  refine lv_bipush (v := 16) hx hb d_MO_perform_40 (by decide) ?_
  refine lv_ishl hx hb d_MO_perform_42 ?_
  refine lv_bipush (v := 16) hx hb d_MO_perform_43 (by decide) ?_
  refine lv_ishr hx hb d_MO_perform_45 ?_
  refine lv_istore (lv' := [(7, .int ((a1 <<< ((16 : Int32) &&& 31)) >>> ((16 : Int32) &&& 31))), (6, .int (m_r σ (Int32.toNatClampNeg ((a1 >>> ((16 : Int32) &&& 31)) &&& (31 : Int32))))), (5, .int (m_r σ (Int32.toNatClampNeg ((a1 >>> ((21 : Int32) &&& 31)) &&& (31 : Int32))))), (4, .int ((a1 >>> ((16 : Int32) &&& 31)) &&& (31 : Int32))), (3, .int ((a1 >>> ((21 : Int32) &&& 31)) &&& (31 : Int32))), (2, .int ((Int32.toUInt32 a1 >>> (Int32.toUInt32 (26 : Int32) &&& Int32.toUInt32 31)).toInt32)), (0, .ref (ad 0)), (1, .int a1)]) hx hb d_MO_perform_46 hl (by decide) rfl (fun ls hl => ?_)
  refine lv_iload_n hx hb d_MO_perform_48 rfl (lv_at hl 5 rfl) ?_
  refine lv_if_ne (tgt := 64) hx hb d_MO_perform_49 (by decide) (fun q49 => ?_) (fun q49 => ?_)
  · have hp := hp.2 q49
    refine lv_iload_n hx hb d_MO_perform_64 rfl (lv_at hl 5 rfl) ?_
    refine lv_iconst (v := 1) hx hb d_MO_perform_65 (by decide) ?_
    refine lv_icmp_ne (tgt := 82) hx hb d_MO_perform_66 (by decide) (fun q66 => ?_) (fun q66 => ?_)
    · have hp := hp.2 q66
      refine lv_iload_n hx hb d_MO_perform_82 rfl (lv_at hl 5 rfl) ?_
      refine lv_bipush (v := 8) hx hb d_MO_perform_83 (by decide) ?_
      refine lv_icmp_lt (tgt := 99) hx hb d_MO_perform_85 (by decide) (fun q85 => ?_) (fun q85 => ?_)
      · have hp := hp.1 q85
        exact J99 ((a1 <<< ((16 : Int32) &&& 31)) >>> ((16 : Int32) &&& 31)) (m_r σ (Int32.toNatClampNeg ((a1 >>> ((16 : Int32) &&& 31)) &&& (31 : Int32)))) (m_r σ (Int32.toNatClampNeg ((a1 >>> ((21 : Int32) &&& 31)) &&& (31 : Int32)))) ((Int32.toUInt32 a1 >>> (Int32.toUInt32 (26 : Int32) &&& Int32.toUInt32 31)).toInt32) _ _ _ w (lv_sub hl [0, 1, 2, 5, 6, 7] rfl) (by rw [← e0, f_MO_perform, if_neg q49, if_neg q66, if_pos q85]) hp
      · have hp := hp.2 q85
        refine lv_iload_n hx hb d_MO_perform_88 rfl (lv_at hl 5 rfl) ?_
        refine lv_bipush (v := 20) hx hb d_MO_perform_89 (by decide) ?_
        refine lv_bipush (v := 23) hx hb d_MO_perform_91 (by decide) ?_
        refine rSZ (rest := []) hc w (c_MO_within l E ad σ ((Int32.toUInt32 a1 >>> (Int32.toUInt32 (26 : Int32) &&& Int32.toUInt32 31)).toInt32) (20 : Int32) (23 : Int32)) ks_MO_within mw_976 ⟨Nat.le_of_ble_eq_true rfl, Nat.le_of_ble_eq_true rfl⟩ hl.1 rfl (Nat.le_of_ble_eq_true rfl) ⟨Nat.zero_le _, Nat.zero_le _⟩ d_MO_perform_93 (fun H locs w => ?_)
        refine lv_if_eq (tgt := 114) hx hb d_MO_perform_96 (by decide) (fun q96 => ?_) (fun q96 => ?_)
        · have hp := hp.1 q96
          refine lv_iload_n hx hb d_MO_perform_114 rfl (lv_at hl 5 rfl) ?_
          refine lv_bipush (v := 16) hx hb d_MO_perform_115 (by decide) ?_
          refine lv_icmp_ge (tgt := 134) hx hb d_MO_perform_117 (by decide) (fun q117 => ?_) (fun q117 => ?_)
          · have hp := hp.1 q117
            refine lv_iload_n hx hb d_MO_perform_134 rfl (lv_at hl 5 rfl) ?_
            refine lv_bipush (v := 16) hx hb d_MO_perform_135 (by decide) ?_
            refine lv_icmp_eq (tgt := 146) hx hb d_MO_perform_137 (by decide) (fun q137 => ?_) (fun q137 => ?_)
            · have hp := hp.1 q137
              exact J146 ((a1 >>> ((16 : Int32) &&& 31)) &&& (31 : Int32)) ((a1 >>> ((21 : Int32) &&& 31)) &&& (31 : Int32)) ((Int32.toUInt32 a1 >>> (Int32.toUInt32 (26 : Int32) &&& Int32.toUInt32 31)).toInt32) _ _ _ w (lv_sub hl [3, 4, 5, 6, 7] rfl) (by rw [← e0, f_MO_perform, if_neg q49, if_neg q66, if_neg q85, if_pos q96, if_pos q117, if_pos q137]) hp
            · have hp := hp.2 q137
              refine lv_iload_n hx hb d_MO_perform_140 rfl (lv_at hl 5 rfl) ?_
              refine lv_bipush (v := 47) hx hb d_MO_perform_141 (by decide) ?_
              refine lv_icmp_ne (tgt := 158) hx hb d_MO_perform_143 (by decide) (fun q143 => ?_) (fun q143 => ?_)
              · have hp := hp.2 q143
                refine lv_iload_n hx hb d_MO_perform_158 rfl (lv_at hl 5 rfl) ?_
                refine lv_bipush (v := 28) hx hb d_MO_perform_159 (by decide) ?_
                refine lv_icmp_ne (tgt := 176) hx hb d_MO_perform_161 (by decide) (fun q161 => ?_) (fun q161 => ?_)
                · have hp := hp.2 q161
                  refine lv_iload_n hx hb d_MO_perform_176 rfl (lv_at hl 5 rfl) ?_
                  refine lv_bipush (v := 32) hx hb d_MO_perform_177 (by decide) ?_
                  refine lv_icmp_lt (tgt := 197) hx hb d_MO_perform_179 (by decide) (fun q179 => ?_) (fun q179 => ?_)
                  · have hp := hp.1 q179
                    refine lv_aload_n hx hb d_MO_perform_197 rfl (lv_at hl 6 rfl) ?_
                    refine lv_iload_n hx hb d_MO_perform_198 rfl (lv_at hl 5 rfl) ?_
                    refine cVV (rest := []) hc w (c_MO_other l E ad σ ((Int32.toUInt32 a1 >>> (Int32.toUInt32 (26 : Int32) &&& Int32.toUInt32 31)).toInt32)) kv_MO_other mw_1155 0 rfl rfl ⟨Nat.le_of_ble_eq_true rfl, Nat.le_of_ble_eq_true rfl⟩ hl.1 rfl (Nat.le_of_ble_eq_true rfl) ⟨Nat.zero_le _, Nat.zero_le _⟩ d_MO_perform_199 (fun z199 H locs hs199 w => ?_)
                    rw [hs199] at hp
                    unfold P_MO_perform_c1 at hp
                    have e_c1 : zV (f_MO_perform_c1 z199 a1 ) = Z := by rw [← e0, f_MO_perform, if_neg q49, if_neg q66, if_neg q85, if_pos q96, if_pos q117, if_neg q137, if_neg q143, if_neg q161, if_pos q179, hs199]
                    exact rt_v hc w d_MO_perform_202 (by rw [← e_c1, f_MO_perform_c1] <;> rfl)
                  · have hp := hp.2 q179
                    refine lv_aload_n hx hb d_MO_perform_182 rfl (lv_at hl 6 rfl) ?_
                    refine lv_iload_n hx hb d_MO_perform_183 rfl (lv_at hl 5 rfl) ?_
                    refine lv_iload hx hb d_MO_perform_184 (lv_at hl 3 rfl) ?_
                    refine lv_iload hx hb d_MO_perform_186 (lv_at hl 2 rfl) ?_
                    refine lv_iload hx hb d_MO_perform_188 (lv_at hl 0 rfl) ?_
                    refine lv_iadd hx hb d_MO_perform_190 ?_
                    obtain ⟨hP191, hp⟩ := hp
                    refine cVV (rest := []) hc w (c_MO_memories l E ad σ ((Int32.toUInt32 a1 >>> (Int32.toUInt32 (26 : Int32) &&& Int32.toUInt32 31)).toInt32) ((a1 >>> ((16 : Int32) &&& 31)) &&& (31 : Int32)) ((m_r σ (Int32.toNatClampNeg ((a1 >>> ((21 : Int32) &&& 31)) &&& (31 : Int32)))) + ((a1 <<< ((16 : Int32) &&& 31)) >>> ((16 : Int32) &&& 31))) hP191) kv_MO_memories mw_1151 0 rfl rfl ⟨Nat.le_of_ble_eq_true rfl, Nat.le_of_ble_eq_true rfl⟩ hl.1 rfl (Nat.le_of_ble_eq_true rfl) ⟨Nat.zero_le _, Nat.zero_le _⟩ d_MO_perform_191 (fun z191 H locs hs191 w => ?_)
                    rw [hs191] at hp
                    unfold P_MO_perform_c2 at hp
                    have e_c2 : zV (f_MO_perform_c2 z191 a1 ) = Z := by rw [← e0, f_MO_perform, if_neg q49, if_neg q66, if_neg q85, if_pos q96, if_pos q117, if_neg q137, if_neg q143, if_neg q161, if_neg q179, hs191]
                    refine lv_goto (tgt := 202) hx hb d_MO_perform_194 (by decide) ?_
                    exact rt_v hc w d_MO_perform_202 (by rw [← e_c2, f_MO_perform_c2] <;> rfl)
                · have hp := hp.1 q161
                  refine lv_aload_n hx hb d_MO_perform_164 rfl (lv_at hl 6 rfl) ?_
                  refine lv_iload_n hx hb d_MO_perform_165 rfl (lv_at hl 7 rfl) ?_
                  refine lv_iload hx hb d_MO_perform_166 (lv_at hl 2 rfl) ?_
                  refine lv_iload hx hb d_MO_perform_168 (lv_at hl 1 rfl) ?_
                  obtain ⟨hP170, hp⟩ := hp
                  refine cVV (rest := []) hc w (c_MO_multiplies l E ad σ a1 (m_r σ (Int32.toNatClampNeg ((a1 >>> ((21 : Int32) &&& 31)) &&& (31 : Int32)))) (m_r σ (Int32.toNatClampNeg ((a1 >>> ((16 : Int32) &&& 31)) &&& (31 : Int32)))) hP170) kv_MO_multiplies mw_1144 0 rfl rfl ⟨Nat.le_of_ble_eq_true rfl, Nat.le_of_ble_eq_true rfl⟩ hl.1 rfl (Nat.le_of_ble_eq_true rfl) ⟨Nat.zero_le _, Nat.zero_le _⟩ d_MO_perform_170 (fun z170 H locs hs170 w => ?_)
                  rw [hs170] at hp
                  unfold P_MO_perform_c3 at hp
                  have e_c3 : zV (f_MO_perform_c3 z170 a1 ) = Z := by rw [← e0, f_MO_perform, if_neg q49, if_neg q66, if_neg q85, if_pos q96, if_pos q117, if_neg q137, if_neg q143, if_pos q161, hs170]
                  refine lv_goto (tgt := 202) hx hb d_MO_perform_173 (by decide) ?_
                  exact rt_v hc w d_MO_perform_202 (by rw [← e_c3, f_MO_perform_c3] <;> rfl)
              · have hp := hp.1 q143
                exact J146 ((a1 >>> ((16 : Int32) &&& 31)) &&& (31 : Int32)) ((a1 >>> ((21 : Int32) &&& 31)) &&& (31 : Int32)) ((Int32.toUInt32 a1 >>> (Int32.toUInt32 (26 : Int32) &&& Int32.toUInt32 31)).toInt32) _ _ _ w (lv_sub hl [3, 4, 5, 6, 7] rfl) (by rw [← e0, f_MO_perform, if_neg q49, if_neg q66, if_neg q85, if_pos q96, if_pos q117, if_neg q137, if_pos q143]) hp
          · have hp := hp.2 q117
            refine lv_aload_n hx hb d_MO_perform_120 rfl (lv_at hl 6 rfl) ?_
            refine lv_iload_n hx hb d_MO_perform_121 rfl (lv_at hl 5 rfl) ?_
            refine lv_iload hx hb d_MO_perform_122 (lv_at hl 3 rfl) ?_
            refine lv_iload hx hb d_MO_perform_124 (lv_at hl 2 rfl) ?_
            refine lv_iload hx hb d_MO_perform_126 (lv_at hl 0 rfl) ?_
            refine cVV (rest := []) hc w (c_MO_immediate l E ad σ ((Int32.toUInt32 a1 >>> (Int32.toUInt32 (26 : Int32) &&& Int32.toUInt32 31)).toInt32) ((a1 >>> ((16 : Int32) &&& 31)) &&& (31 : Int32)) (m_r σ (Int32.toNatClampNeg ((a1 >>> ((21 : Int32) &&& 31)) &&& (31 : Int32)))) ((a1 <<< ((16 : Int32) &&& 31)) >>> ((16 : Int32) &&& 31)) (bd31 _)) kv_MO_immediate mw_1127 0 rfl rfl ⟨Nat.le_of_ble_eq_true rfl, Nat.le_of_ble_eq_true rfl⟩ hl.1 rfl (Nat.le_of_ble_eq_true rfl) ⟨Nat.zero_le _, Nat.zero_le _⟩ d_MO_perform_128 (fun z128 H locs hs128 w => ?_)
            rw [hs128] at hp
            unfold P_MO_perform_c4 at hp
            have e_c4 : zV (f_MO_perform_c4 z128 a1 ) = Z := by rw [← e0, f_MO_perform, if_neg q49, if_neg q66, if_neg q85, if_pos q96, if_neg q117, hs128]
            refine lv_goto (tgt := 202) hx hb d_MO_perform_131 (by decide) ?_
            exact rt_v hc w d_MO_perform_202 (by rw [← e_c4, f_MO_perform_c4] <;> rfl)
        · have hp := hp.2 q96
          exact J99 ((a1 <<< ((16 : Int32) &&& 31)) >>> ((16 : Int32) &&& 31)) (m_r σ (Int32.toNatClampNeg ((a1 >>> ((16 : Int32) &&& 31)) &&& (31 : Int32)))) (m_r σ (Int32.toNatClampNeg ((a1 >>> ((21 : Int32) &&& 31)) &&& (31 : Int32)))) ((Int32.toUInt32 a1 >>> (Int32.toUInt32 (26 : Int32) &&& Int32.toUInt32 31)).toInt32) _ _ _ w (lv_sub hl [0, 1, 2, 5, 6, 7] rfl) (by rw [← e0, f_MO_perform, if_neg q49, if_neg q66, if_neg q85, if_neg q96]) hp
    · have hp := hp.1 q66
      refine lv_aload_n hx hb d_MO_perform_69 rfl (lv_at hl 6 rfl) ?_
      refine lv_iload hx hb d_MO_perform_70 (lv_at hl 3 rfl) ?_
      refine lv_iload hx hb d_MO_perform_72 (lv_at hl 2 rfl) ?_
      refine lv_iload hx hb d_MO_perform_74 (lv_at hl 0 rfl) ?_
      refine cVV (rest := []) hc w (c_MO_byRegister l E ad σ ((a1 >>> ((16 : Int32) &&& 31)) &&& (31 : Int32)) (m_r σ (Int32.toNatClampNeg ((a1 >>> ((21 : Int32) &&& 31)) &&& (31 : Int32)))) ((a1 <<< ((16 : Int32) &&& 31)) >>> ((16 : Int32) &&& 31))) kv_MO_byRegister mw_1118 0 rfl rfl ⟨Nat.le_of_ble_eq_true rfl, Nat.le_of_ble_eq_true rfl⟩ hl.1 rfl (Nat.le_of_ble_eq_true rfl) ⟨Nat.zero_le _, Nat.zero_le _⟩ d_MO_perform_76 (fun z76 H locs hs76 w => ?_)
      rw [hs76] at hp
      unfold P_MO_perform_c5 at hp
      have e_c5 : zV (f_MO_perform_c5 z76 a1 ) = Z := by rw [← e0, f_MO_perform, if_neg q49, if_pos q66, hs76]
      refine lv_goto (tgt := 202) hx hb d_MO_perform_79 (by decide) ?_
      exact rt_v hc w d_MO_perform_202 (by rw [← e_c5, f_MO_perform_c5] <;> rfl)
  · have hp := hp.1 q49
    refine lv_aload_n hx hb d_MO_perform_52 rfl (lv_at hl 6 rfl) ?_
    refine lv_iload_n hx hb d_MO_perform_53 rfl (lv_at hl 7 rfl) ?_
    refine lv_iload hx hb d_MO_perform_54 (lv_at hl 2 rfl) ?_
    refine lv_iload hx hb d_MO_perform_56 (lv_at hl 1 rfl) ?_
    obtain ⟨hP58, hp⟩ := hp
    refine cVV (rest := []) hc w (c_MO_special l E ad σ a1 (m_r σ (Int32.toNatClampNeg ((a1 >>> ((21 : Int32) &&& 31)) &&& (31 : Int32)))) (m_r σ (Int32.toNatClampNeg ((a1 >>> ((16 : Int32) &&& 31)) &&& (31 : Int32)))) hP58) kv_MO_special mw_1075 0 rfl rfl ⟨Nat.le_of_ble_eq_true rfl, Nat.le_of_ble_eq_true rfl⟩ hl.1 rfl (Nat.le_of_ble_eq_true rfl) ⟨Nat.zero_le _, Nat.zero_le _⟩ d_MO_perform_58 (fun z58 H locs hs58 w => ?_)
    rw [hs58] at hp
    unfold P_MO_perform_c6 at hp
    have e_c6 : zV (f_MO_perform_c6 z58 a1 ) = Z := by rw [← e0, f_MO_perform, if_pos q49, hs58]
    refine lv_goto (tgt := 202) hx hb d_MO_perform_61 (by decide) ?_
    exact rt_v hc w d_MO_perform_202 (by rw [← e_c6, f_MO_perform_c6] <;> rfl)
-- MO_go
def f_MO_go_c17 (σ225 : MS)  (v225_3 : Bool) : MS × Bool := (σ225, v225_3)
def f_MO_go_225 (σ225 : MS) (v225_3 : Bool) (w225_2 : Int32) : MS × Bool := f_MO_go_c17 (ms_sys σ225 (upd (m_sys σ225) (Int32.toNatClampNeg (1 : Int32)) w225_2))  v225_3
def f_MO_go_212 (σ212 : MS) (v212_3 : Bool) : MS × Bool := f_MO_go_225 σ212 v212_3 (31 : Int32)
def f_MO_go_182 (σ182 : MS) (v182_3 : Bool) : MS × Bool := if (m_sys σ182 (Int32.toNatClampNeg (1 : Int32))) = (m_sys σ182 (Int32.toNatClampNeg (6 : Int32))) then (f_MO_go_212 σ182 v182_3) else (if (m_sys σ182 (Int32.toNatClampNeg (1 : Int32))) = 0 then (f_MO_go_212 σ182 v182_3) else (f_MO_go_225 σ182 v182_3 ((m_sys σ182 (Int32.toNatClampNeg (1 : Int32))) - (1 : Int32))))
def f_MO_go_c16 (z160 : MS)  (w154_0 : Bool) : MS × Bool := f_MO_go_182 z160 w154_0
def f_MO_go_c15 (σ179 : MS)  (w154_0 : Bool) : MS × Bool := f_MO_go_182 σ179 w154_0
def f_MO_go_c14 (σ171 : MS)  (w154_0 : Bool) : MS × Bool := f_MO_go_c15 (ms_slot σ171 (m_nextSlot σ171))  w154_0
def f_MO_go_154 (σ154 : MS) (w154_0 : Bool) : MS × Bool := if (zb w154_0) = 0 then (f_MO_go_c14 (ms_pc σ154 (m_next σ154))  w154_0) else (f_MO_go_c16 (f_MO_enter σ154)  w154_0)
def f_MO_go_142 (σ142 : MS) : MS × Bool := if (m_fault σ142) < 0 then (f_MO_go_154 σ142 false) else (f_MO_go_154 σ142 true)
def f_MO_go_c13 (z139 : MS)   : MS × Bool := f_MO_go_142 z139
def f_MO_go_c12 (σ119 : MS)  (v114_1 : Int64) : MS × Bool := if 0 ≤ (m_fault σ119) then (f_MO_go_142 σ119) else (f_MO_go_c13 (f_MO_perform σ119 (m_memory σ119 (Int32.toNatClampNeg ((Int64.toInt32 v114_1) / (4 : Int32)))))  )
def f_MO_go_c11 (σ114 : MS)  (v114_1 : Int64) : MS × Bool := f_MO_go_c12 (ms_nextSlot σ114 false)  v114_1
def f_MO_go_114 (σ114 : MS) (v114_1 : Int64) (w114_1 : Int32) : MS × Bool := f_MO_go_c11 (ms_next σ114 w114_1)  v114_1
def f_MO_go_c10 (z76 : MS)   : MS × Bool := (z76, true)
def f_MO_go_c9 (σ72 : MS)   : MS × Bool := f_MO_go_c10 (f_MO_enter σ72)  
def f_MO_go_c8 (z89 : MS × Int64)   : MS × Bool := if (zb (m_slot z89.1)) = 0 then (f_MO_go_114 z89.1 z89.2 ((m_pc z89.1) + (4 : Int32))) else (f_MO_go_114 z89.1 z89.2 (m_target z89.1))
def f_MO_go_63 (σ63 : MS) : MS × Bool := if (zb (f_MO_isCalled σ63)) = 0 then (f_MO_go_c8 (f_MO_aligned σ63 (m_pc σ63) (4 : Int32) false true)  ) else (f_MO_go_c9 (ms_fault σ63 (0 : Int32))  )
def f_MO_go_c7 (σ60 : MS)   : MS × Bool := f_MO_go_63 σ60
def f_MO_go_c6 (σ40 : MS)   : MS × Bool := if (m_sys σ40 (Int32.toNatClampNeg (9 : Int32))) = (m_sys σ40 (Int32.toNatClampNeg (11 : Int32))) then (f_MO_go_c7 (ms_timer σ40 true)  ) else (f_MO_go_63 σ40)
def f_MO_go_c5 (σ27 : MS)   : MS × Bool := f_MO_go_c6 (ms_sys σ27 (upd (m_sys σ27) (Int32.toNatClampNeg (9 : Int32)) ((m_sys σ27 (Int32.toNatClampNeg (9 : Int32))) + (1 : Int32))))  
def f_MO_go_c4 (σ22 : MS)   : MS × Bool := f_MO_go_c5 (ms_unit σ22 (0 : Int32))  
def f_MO_go_c3 (σ17 : MS)   : MS × Bool := f_MO_go_c4 (ms_refills σ17 false)  
def f_MO_go_c2 (σ12 : MS)   : MS × Bool := f_MO_go_c3 (ms_hasAddress σ12 false)  
def f_MO_go_c1 (σ7 : MS)   : MS × Bool := f_MO_go_c2 (ms_fault σ7 (-1 : Int32))  
def f_MO_go (σ : MS) : MS × Bool := f_MO_go_c1 (ms_steps σ ((m_steps σ) + (1 : Int32)))  
def P_MO_go_c17 (σ225 : MS)  (v225_3 : Bool) : Prop := True
def P_MO_go_225 (σ225 : MS) (v225_3 : Bool) (w225_2 : Int32) : Prop := P_MO_go_c17 (ms_sys σ225 (upd (m_sys σ225) (Int32.toNatClampNeg (1 : Int32)) w225_2))  v225_3
def P_MO_go_212 (σ212 : MS) (v212_3 : Bool) : Prop := P_MO_go_225 σ212 v212_3 (31 : Int32)
def P_MO_go_182 (σ182 : MS) (v182_3 : Bool) : Prop := (((m_sys σ182 (Int32.toNatClampNeg (1 : Int32))) = (m_sys σ182 (Int32.toNatClampNeg (6 : Int32)))) → (P_MO_go_212 σ182 v182_3)) ∧ (¬ ((m_sys σ182 (Int32.toNatClampNeg (1 : Int32))) = (m_sys σ182 (Int32.toNatClampNeg (6 : Int32)))) → ((((m_sys σ182 (Int32.toNatClampNeg (1 : Int32))) = 0) → (P_MO_go_212 σ182 v182_3)) ∧ (¬ ((m_sys σ182 (Int32.toNatClampNeg (1 : Int32))) = 0) → (P_MO_go_225 σ182 v182_3 ((m_sys σ182 (Int32.toNatClampNeg (1 : Int32))) - (1 : Int32))))))
def P_MO_go_c16 (z160 : MS)  (w154_0 : Bool) : Prop := P_MO_go_182 z160 w154_0
def P_MO_go_c15 (σ179 : MS)  (w154_0 : Bool) : Prop := P_MO_go_182 σ179 w154_0
def P_MO_go_c14 (σ171 : MS)  (w154_0 : Bool) : Prop := P_MO_go_c15 (ms_slot σ171 (m_nextSlot σ171))  w154_0
def P_MO_go_154 (σ154 : MS) (w154_0 : Bool) : Prop := (((zb w154_0) = 0) → (P_MO_go_c14 (ms_pc σ154 (m_next σ154))  w154_0)) ∧ (¬ ((zb w154_0) = 0) → (P_MO_enter σ154 ∧ P_MO_go_c16 (f_MO_enter σ154)  w154_0))
def P_MO_go_142 (σ142 : MS) : Prop := (((m_fault σ142) < 0) → (P_MO_go_154 σ142 false)) ∧ (¬ ((m_fault σ142) < 0) → (P_MO_go_154 σ142 true))
def P_MO_go_c13 (z139 : MS)   : Prop := P_MO_go_142 z139
def P_MO_go_c12 (σ119 : MS)  (v114_1 : Int64) : Prop := ((0 ≤ (m_fault σ119)) → (P_MO_go_142 σ119)) ∧ (¬ (0 ≤ (m_fault σ119)) → (vp_in ((Int64.toInt32 v114_1) / (4 : Int32)) 65536 ∧ P_MO_perform σ119 (m_memory σ119 (Int32.toNatClampNeg ((Int64.toInt32 v114_1) / (4 : Int32)))) ∧ P_MO_go_c13 (f_MO_perform σ119 (m_memory σ119 (Int32.toNatClampNeg ((Int64.toInt32 v114_1) / (4 : Int32)))))  ))
def P_MO_go_c11 (σ114 : MS)  (v114_1 : Int64) : Prop := P_MO_go_c12 (ms_nextSlot σ114 false)  v114_1
def P_MO_go_114 (σ114 : MS) (v114_1 : Int64) (w114_1 : Int32) : Prop := P_MO_go_c11 (ms_next σ114 w114_1)  v114_1
def P_MO_go_c10 (z76 : MS)   : Prop := True
def P_MO_go_c9 (σ72 : MS)   : Prop := P_MO_enter σ72 ∧ P_MO_go_c10 (f_MO_enter σ72)  
def P_MO_go_c8 (z89 : MS × Int64)   : Prop := (((zb (m_slot z89.1)) = 0) → (P_MO_go_114 z89.1 z89.2 ((m_pc z89.1) + (4 : Int32)))) ∧ (¬ ((zb (m_slot z89.1)) = 0) → (P_MO_go_114 z89.1 z89.2 (m_target z89.1)))
def P_MO_go_63 (σ63 : MS) : Prop := (((zb (f_MO_isCalled σ63)) = 0) → (P_MO_aligned σ63 (m_pc σ63) (4 : Int32) false true ∧ P_MO_go_c8 (f_MO_aligned σ63 (m_pc σ63) (4 : Int32) false true)  )) ∧ (¬ ((zb (f_MO_isCalled σ63)) = 0) → (P_MO_go_c9 (ms_fault σ63 (0 : Int32))  ))
def P_MO_go_c7 (σ60 : MS)   : Prop := P_MO_go_63 σ60
def P_MO_go_c6 (σ40 : MS)   : Prop := (((m_sys σ40 (Int32.toNatClampNeg (9 : Int32))) = (m_sys σ40 (Int32.toNatClampNeg (11 : Int32)))) → (P_MO_go_c7 (ms_timer σ40 true)  )) ∧ (¬ ((m_sys σ40 (Int32.toNatClampNeg (9 : Int32))) = (m_sys σ40 (Int32.toNatClampNeg (11 : Int32)))) → (P_MO_go_63 σ40))
def P_MO_go_c5 (σ27 : MS)   : Prop := P_MO_go_c6 (ms_sys σ27 (upd (m_sys σ27) (Int32.toNatClampNeg (9 : Int32)) ((m_sys σ27 (Int32.toNatClampNeg (9 : Int32))) + (1 : Int32))))  
def P_MO_go_c4 (σ22 : MS)   : Prop := P_MO_go_c5 (ms_unit σ22 (0 : Int32))  
def P_MO_go_c3 (σ17 : MS)   : Prop := P_MO_go_c4 (ms_refills σ17 false)  
def P_MO_go_c2 (σ12 : MS)   : Prop := P_MO_go_c3 (ms_hasAddress σ12 false)  
def P_MO_go_c1 (σ7 : MS)   : Prop := P_MO_go_c2 (ms_fault σ7 (-1 : Int32))  
def P_MO_go (σ : MS) : Prop := P_MO_go_c1 (ms_steps σ ((m_steps σ) + (1 : Int32)))  
theorem d_MO_go_0 : decode b_MO_go 0 = .ok (.aload_n 0, 1) := by decide +kernel
theorem d_MO_go_1 : decode b_MO_go 1 = .ok (.dup, 1) := by decide +kernel
theorem d_MO_go_2 : decode b_MO_go 2 = .ok (.getfield 140, 3) := by decide +kernel
theorem d_MO_go_5 : decode b_MO_go 5 = .ok (.iconst 1, 1) := by decide +kernel
theorem d_MO_go_6 : decode b_MO_go 6 = .ok (.iadd, 1) := by decide +kernel
theorem d_MO_go_7 : decode b_MO_go 7 = .ok (.putfield 140, 3) := by decide +kernel
theorem d_MO_go_10 : decode b_MO_go 10 = .ok (.aload_n 0, 1) := by decide +kernel
theorem d_MO_go_11 : decode b_MO_go 11 = .ok (.iconst (-1), 1) := by decide +kernel
theorem d_MO_go_12 : decode b_MO_go 12 = .ok (.putfield 45, 3) := by decide +kernel
theorem d_MO_go_15 : decode b_MO_go 15 = .ok (.aload_n 0, 1) := by decide +kernel
theorem d_MO_go_16 : decode b_MO_go 16 = .ok (.iconst 0, 1) := by decide +kernel
theorem d_MO_go_17 : decode b_MO_go 17 = .ok (.putfield 100, 3) := by decide +kernel
theorem d_MO_go_20 : decode b_MO_go 20 = .ok (.aload_n 0, 1) := by decide +kernel
theorem d_MO_go_21 : decode b_MO_go 21 = .ok (.iconst 0, 1) := by decide +kernel
theorem d_MO_go_22 : decode b_MO_go 22 = .ok (.putfield 103, 3) := by decide +kernel
theorem d_MO_go_25 : decode b_MO_go 25 = .ok (.aload_n 0, 1) := by decide +kernel
theorem d_MO_go_26 : decode b_MO_go 26 = .ok (.iconst 0, 1) := by decide +kernel
theorem d_MO_go_27 : decode b_MO_go 27 = .ok (.putfield 134, 3) := by decide +kernel
theorem d_MO_go_30 : decode b_MO_go 30 = .ok (.aload_n 0, 1) := by decide +kernel
theorem d_MO_go_31 : decode b_MO_go 31 = .ok (.getfield 17, 3) := by decide +kernel
theorem d_MO_go_34 : decode b_MO_go 34 = .ok (.bipush 9, 2) := by decide +kernel
theorem d_MO_go_36 : decode b_MO_go 36 = .ok (.dup2, 1) := by decide +kernel
theorem d_MO_go_37 : decode b_MO_go 37 = .ok (.iaload, 1) := by decide +kernel
theorem d_MO_go_38 : decode b_MO_go 38 = .ok (.iconst 1, 1) := by decide +kernel
theorem d_MO_go_39 : decode b_MO_go 39 = .ok (.iadd, 1) := by decide +kernel
theorem d_MO_go_40 : decode b_MO_go 40 = .ok (.iastore, 1) := by decide +kernel
theorem d_MO_go_41 : decode b_MO_go 41 = .ok (.aload_n 0, 1) := by decide +kernel
theorem d_MO_go_42 : decode b_MO_go 42 = .ok (.getfield 17, 3) := by decide +kernel
theorem d_MO_go_45 : decode b_MO_go 45 = .ok (.bipush 9, 2) := by decide +kernel
theorem d_MO_go_47 : decode b_MO_go 47 = .ok (.iaload, 1) := by decide +kernel
theorem d_MO_go_48 : decode b_MO_go 48 = .ok (.aload_n 0, 1) := by decide +kernel
theorem d_MO_go_49 : decode b_MO_go 49 = .ok (.getfield 17, 3) := by decide +kernel
theorem d_MO_go_52 : decode b_MO_go 52 = .ok (.bipush 11, 2) := by decide +kernel
theorem d_MO_go_54 : decode b_MO_go 54 = .ok (.iaload, 1) := by decide +kernel
theorem d_MO_go_55 : decode b_MO_go 55 = .ok (.if_icmp .ne 8, 3) := by decide +kernel
theorem d_MO_go_58 : decode b_MO_go 58 = .ok (.aload_n 0, 1) := by decide +kernel
theorem d_MO_go_59 : decode b_MO_go 59 = .ok (.iconst 1, 1) := by decide +kernel
theorem d_MO_go_60 : decode b_MO_go 60 = .ok (.putfield 84, 3) := by decide +kernel
theorem d_MO_go_63 : decode b_MO_go 63 = .ok (.aload_n 0, 1) := by decide +kernel
theorem d_MO_go_64 : decode b_MO_go 64 = .ok (.invokevirtual 143, 3) := by decide +kernel
theorem d_MO_go_67 : decode b_MO_go 67 = .ok (.ifCond .eq 14, 3) := by decide +kernel
theorem d_MO_go_70 : decode b_MO_go 70 = .ok (.aload_n 0, 1) := by decide +kernel
theorem d_MO_go_71 : decode b_MO_go 71 = .ok (.iconst 0, 1) := by decide +kernel
theorem d_MO_go_72 : decode b_MO_go 72 = .ok (.putfield 45, 3) := by decide +kernel
theorem d_MO_go_75 : decode b_MO_go 75 = .ok (.aload_n 0, 1) := by decide +kernel
theorem d_MO_go_76 : decode b_MO_go 76 = .ok (.invokevirtual 146, 3) := by decide +kernel
theorem d_MO_go_79 : decode b_MO_go 79 = .ok (.iconst 1, 1) := by decide +kernel
theorem d_MO_go_80 : decode b_MO_go 80 = .ok (.ireturn, 1) := by decide +kernel
theorem d_MO_go_81 : decode b_MO_go 81 = .ok (.aload_n 0, 1) := by decide +kernel
theorem d_MO_go_82 : decode b_MO_go 82 = .ok (.aload_n 0, 1) := by decide +kernel
theorem d_MO_go_83 : decode b_MO_go 83 = .ok (.getfield 40, 3) := by decide +kernel
theorem d_MO_go_86 : decode b_MO_go 86 = .ok (.iconst 4, 1) := by decide +kernel
theorem d_MO_go_87 : decode b_MO_go 87 = .ok (.iconst 0, 1) := by decide +kernel
theorem d_MO_go_88 : decode b_MO_go 88 = .ok (.iconst 1, 1) := by decide +kernel
theorem d_MO_go_89 : decode b_MO_go 89 = .ok (.invokevirtual 149, 3) := by decide +kernel
theorem d_MO_go_92 : decode b_MO_go 92 = .ok (.lstore_n 1, 1) := by decide +kernel
theorem d_MO_go_93 : decode b_MO_go 93 = .ok (.aload_n 0, 1) := by decide +kernel
theorem d_MO_go_94 : decode b_MO_go 94 = .ok (.aload_n 0, 1) := by decide +kernel
theorem d_MO_go_95 : decode b_MO_go 95 = .ok (.getfield 68, 3) := by decide +kernel
theorem d_MO_go_98 : decode b_MO_go 98 = .ok (.ifCond .eq 10, 3) := by decide +kernel
theorem d_MO_go_101 : decode b_MO_go 101 = .ok (.aload_n 0, 1) := by decide +kernel
theorem d_MO_go_102 : decode b_MO_go 102 = .ok (.getfield 153, 3) := by decide +kernel
theorem d_MO_go_105 : decode b_MO_go 105 = .ok (.goto 9, 3) := by decide +kernel
theorem d_MO_go_108 : decode b_MO_go 108 = .ok (.aload_n 0, 1) := by decide +kernel
theorem d_MO_go_109 : decode b_MO_go 109 = .ok (.getfield 40, 3) := by decide +kernel
theorem d_MO_go_112 : decode b_MO_go 112 = .ok (.iconst 4, 1) := by decide +kernel
theorem d_MO_go_113 : decode b_MO_go 113 = .ok (.iadd, 1) := by decide +kernel
theorem d_MO_go_114 : decode b_MO_go 114 = .ok (.putfield 156, 3) := by decide +kernel
theorem d_MO_go_117 : decode b_MO_go 117 = .ok (.aload_n 0, 1) := by decide +kernel
theorem d_MO_go_118 : decode b_MO_go 118 = .ok (.iconst 0, 1) := by decide +kernel
theorem d_MO_go_119 : decode b_MO_go 119 = .ok (.putfield 159, 3) := by decide +kernel
theorem d_MO_go_122 : decode b_MO_go 122 = .ok (.aload_n 0, 1) := by decide +kernel
theorem d_MO_go_123 : decode b_MO_go 123 = .ok (.getfield 45, 3) := by decide +kernel
theorem d_MO_go_126 : decode b_MO_go 126 = .ok (.ifCond .ge 16, 3) := by decide +kernel
theorem d_MO_go_129 : decode b_MO_go 129 = .ok (.aload_n 0, 1) := by decide +kernel
theorem d_MO_go_130 : decode b_MO_go 130 = .ok (.aload_n 0, 1) := by decide +kernel
theorem d_MO_go_131 : decode b_MO_go 131 = .ok (.getfield 8, 3) := by decide +kernel
theorem d_MO_go_134 : decode b_MO_go 134 = .ok (.lload_n 1, 1) := by decide +kernel
theorem d_MO_go_135 : decode b_MO_go 135 = .ok (.l2i, 1) := by decide +kernel
theorem d_MO_go_136 : decode b_MO_go 136 = .ok (.iconst 4, 1) := by decide +kernel
theorem d_MO_go_137 : decode b_MO_go 137 = .ok (.idiv, 1) := by decide +kernel
theorem d_MO_go_138 : decode b_MO_go 138 = .ok (.iaload, 1) := by decide +kernel
theorem d_MO_go_139 : decode b_MO_go 139 = .ok (.invokevirtual 162, 3) := by decide +kernel
theorem d_MO_go_142 : decode b_MO_go 142 = .ok (.aload_n 0, 1) := by decide +kernel
theorem d_MO_go_143 : decode b_MO_go 143 = .ok (.getfield 45, 3) := by decide +kernel
theorem d_MO_go_146 : decode b_MO_go 146 = .ok (.ifCond .lt 7, 3) := by decide +kernel
theorem d_MO_go_149 : decode b_MO_go 149 = .ok (.iconst 1, 1) := by decide +kernel
theorem d_MO_go_150 : decode b_MO_go 150 = .ok (.goto 4, 3) := by decide +kernel
theorem d_MO_go_153 : decode b_MO_go 153 = .ok (.iconst 0, 1) := by decide +kernel
theorem d_MO_go_154 : decode b_MO_go 154 = .ok (.istore_n 3, 1) := by decide +kernel
theorem d_MO_go_155 : decode b_MO_go 155 = .ok (.iload_n 3, 1) := by decide +kernel
theorem d_MO_go_156 : decode b_MO_go 156 = .ok (.ifCond .eq 10, 3) := by decide +kernel
theorem d_MO_go_159 : decode b_MO_go 159 = .ok (.aload_n 0, 1) := by decide +kernel
theorem d_MO_go_160 : decode b_MO_go 160 = .ok (.invokevirtual 146, 3) := by decide +kernel
theorem d_MO_go_163 : decode b_MO_go 163 = .ok (.goto 19, 3) := by decide +kernel
theorem d_MO_go_166 : decode b_MO_go 166 = .ok (.aload_n 0, 1) := by decide +kernel
theorem d_MO_go_167 : decode b_MO_go 167 = .ok (.aload_n 0, 1) := by decide +kernel
theorem d_MO_go_168 : decode b_MO_go 168 = .ok (.getfield 156, 3) := by decide +kernel
theorem d_MO_go_171 : decode b_MO_go 171 = .ok (.putfield 40, 3) := by decide +kernel
theorem d_MO_go_174 : decode b_MO_go 174 = .ok (.aload_n 0, 1) := by decide +kernel
theorem d_MO_go_175 : decode b_MO_go 175 = .ok (.aload_n 0, 1) := by decide +kernel
theorem d_MO_go_176 : decode b_MO_go 176 = .ok (.getfield 159, 3) := by decide +kernel
theorem d_MO_go_179 : decode b_MO_go 179 = .ok (.putfield 68, 3) := by decide +kernel
theorem d_MO_go_182 : decode b_MO_go 182 = .ok (.aload_n 0, 1) := by decide +kernel
theorem d_MO_go_183 : decode b_MO_go 183 = .ok (.getfield 17, 3) := by decide +kernel
theorem d_MO_go_186 : decode b_MO_go 186 = .ok (.iconst 1, 1) := by decide +kernel
theorem d_MO_go_187 : decode b_MO_go 187 = .ok (.aload_n 0, 1) := by decide +kernel
theorem d_MO_go_188 : decode b_MO_go 188 = .ok (.getfield 17, 3) := by decide +kernel
theorem d_MO_go_191 : decode b_MO_go 191 = .ok (.iconst 1, 1) := by decide +kernel
theorem d_MO_go_192 : decode b_MO_go 192 = .ok (.iaload, 1) := by decide +kernel
theorem d_MO_go_193 : decode b_MO_go 193 = .ok (.aload_n 0, 1) := by decide +kernel
theorem d_MO_go_194 : decode b_MO_go 194 = .ok (.getfield 17, 3) := by decide +kernel
theorem d_MO_go_197 : decode b_MO_go 197 = .ok (.bipush 6, 2) := by decide +kernel
theorem d_MO_go_199 : decode b_MO_go 199 = .ok (.iaload, 1) := by decide +kernel
theorem d_MO_go_200 : decode b_MO_go 200 = .ok (.if_icmp .eq 12, 3) := by decide +kernel
theorem d_MO_go_203 : decode b_MO_go 203 = .ok (.aload_n 0, 1) := by decide +kernel
theorem d_MO_go_204 : decode b_MO_go 204 = .ok (.getfield 17, 3) := by decide +kernel
theorem d_MO_go_207 : decode b_MO_go 207 = .ok (.iconst 1, 1) := by decide +kernel
theorem d_MO_go_208 : decode b_MO_go 208 = .ok (.iaload, 1) := by decide +kernel
theorem d_MO_go_209 : decode b_MO_go 209 = .ok (.ifCond .ne 8, 3) := by decide +kernel
theorem d_MO_go_212 : decode b_MO_go 212 = .ok (.bipush 31, 2) := by decide +kernel
theorem d_MO_go_214 : decode b_MO_go 214 = .ok (.goto 11, 3) := by decide +kernel
theorem d_MO_go_217 : decode b_MO_go 217 = .ok (.aload_n 0, 1) := by decide +kernel
theorem d_MO_go_218 : decode b_MO_go 218 = .ok (.getfield 17, 3) := by decide +kernel
theorem d_MO_go_221 : decode b_MO_go 221 = .ok (.iconst 1, 1) := by decide +kernel
theorem d_MO_go_222 : decode b_MO_go 222 = .ok (.iaload, 1) := by decide +kernel
theorem d_MO_go_223 : decode b_MO_go 223 = .ok (.iconst 1, 1) := by decide +kernel
theorem d_MO_go_224 : decode b_MO_go 224 = .ok (.isub, 1) := by decide +kernel
theorem d_MO_go_225 : decode b_MO_go 225 = .ok (.iastore, 1) := by decide +kernel
theorem d_MO_go_226 : decode b_MO_go 226 = .ok (.iload_n 3, 1) := by decide +kernel
theorem d_MO_go_227 : decode b_MO_go 227 = .ok (.ireturn, 1) := by decide +kernel
set_option maxHeartbeats 4000000 in
set_option maxRecDepth 100000 in
theorem c_MO_go (l : Launch) (E : Ev) (ad : Nat → Nat) (σ : MS) (hp : P_MO_go σ) : rC xCl l E (mW E ad) y_MO_go b_MO_go 4 (Option.some Jvm.ClassFile.FieldType.boolean) (rmo 6 153) [.ref (ad 0)] σ (zZ (f_MO_go σ)) := by
  refine rC.of (by decide) (Nat.le_of_ble_eq_true rfl) ?_
  intro p e s m below meth c A ls hc w hl
  generalize e0 : zZ (f_MO_go σ) = Z
  have hc : Cx xCl E A p s m ([.ref (ad 0)] : List Value).toArray meth c b_MO_go 4 (Option.some Jvm.ClassFile.FieldType.boolean) "PageMachineModel" := hc
  have hx := hc.1
  have hb := hc.2.1
  have ho := hc.2.2.2.2.2.1
  have hT := hc.2.2.2.2.2.2.1
  have hl : lv_has ls 4 [(0, .ref (ad 0))] := hl
  have J225 : ∀ (σ225 : MS) (v225_3 : Bool) (w225_2 : Int32) (H : Heap) (locs : List Loc) (ls : Array Slot), Wd xCl E A s.heap H locs (mW E ad σ225) → lv_has ls 4 [(3, .int (zb v225_3))] → zZ (f_MO_go_225 σ225 v225_3 w225_2) = Z → P_MO_go_225 σ225 v225_3 w225_2 → W p l e (rmo 6 153) s m ([.ref (ad 0)] : List Value).toArray below meth c H locs 0 0 (MQ below (rQ xCl (mW E ad) E A Z) ([.ref (ad 0)] : List Value).toArray s 0 0 A) (F0 m 225 ls [.int w225_2, .int (1 : Int32), .ref (ad 3)]) := by
    intro σ225 v225_3 w225_2 H locs ls w hl e225 hp
    unfold P_MO_go_225 at hp
    refine s_MO_sys hc w (by unfold vp_in; decide) d_MO_go_225 (fun σ225 H locs hs225 w => ?_)
    rw [hs225] at hp
    unfold P_MO_go_c17 at hp
    have e_c17 : zZ (f_MO_go_c17 σ225  v225_3) = Z := by rw [← e225, f_MO_go_225, hs225]
    refine lv_iload_n hx hb d_MO_go_226 rfl (lv_at hl 0 rfl) ?_
    exact rt_z (v := v225_3) hc w d_MO_go_227 rfl (by rw [← e_c17, f_MO_go_c17] <;> rfl)
  have J212 : ∀ (σ212 : MS) (v212_3 : Bool) (H : Heap) (locs : List Loc) (ls : Array Slot), Wd xCl E A s.heap H locs (mW E ad σ212) → lv_has ls 4 [(3, .int (zb v212_3))] → zZ (f_MO_go_212 σ212 v212_3) = Z → P_MO_go_212 σ212 v212_3 → W p l e (rmo 6 153) s m ([.ref (ad 0)] : List Value).toArray below meth c H locs 0 0 (MQ below (rQ xCl (mW E ad) E A Z) ([.ref (ad 0)] : List Value).toArray s 0 0 A) (F0 m 212 ls [.int (1 : Int32), .ref (ad 3)]) := by
    intro σ212 v212_3 H locs ls w hl e212 hp
    unfold P_MO_go_212 at hp
    refine lv_bipush (v := 31) hx hb d_MO_go_212 (by decide) ?_
    refine lv_goto (tgt := 225) hx hb d_MO_go_214 (by decide) ?_
    exact J225 σ212 v212_3 (31 : Int32) _ _ _ w (lv_sub hl [0] rfl) (by rw [← e212, f_MO_go_212]) hp
  have J182 : ∀ (σ182 : MS) (v182_3 : Bool) (H : Heap) (locs : List Loc) (ls : Array Slot), Wd xCl E A s.heap H locs (mW E ad σ182) → lv_has ls 4 [(3, .int (zb v182_3)), (0, .ref (ad 0))] → zZ (f_MO_go_182 σ182 v182_3) = Z → P_MO_go_182 σ182 v182_3 → W p l e (rmo 6 153) s m ([.ref (ad 0)] : List Value).toArray below meth c H locs 0 0 (MQ below (rQ xCl (mW E ad) E A Z) ([.ref (ad 0)] : List Value).toArray s 0 0 A) (F0 m 182 ls []) := by
    intro σ182 v182_3 H locs ls w hl e182 hp
    unfold P_MO_go_182 at hp
    refine lv_aload_n hx hb d_MO_go_182 rfl (lv_at hl 1 rfl) ?_
    refine g_MO_sys hc w mw_895 d_MO_go_183 ?_
    refine lv_iconst (v := 1) hx hb d_MO_go_186 (by decide) ?_
    refine lv_aload_n hx hb d_MO_go_187 rfl (lv_at hl 1 rfl) ?_
    refine g_MO_sys hc w mw_895 d_MO_go_188 ?_
    refine lv_iconst (v := 1) hx hb d_MO_go_191 (by decide) ?_
    refine a_MO_sys hc w (by unfold vp_in; decide) d_MO_go_192 ?_
    refine lv_aload_n hx hb d_MO_go_193 rfl (lv_at hl 1 rfl) ?_
    refine g_MO_sys hc w mw_895 d_MO_go_194 ?_
    refine lv_bipush (v := 6) hx hb d_MO_go_197 (by decide) ?_
    refine a_MO_sys hc w (by unfold vp_in; decide) d_MO_go_199 ?_
    refine lv_icmp_eq (tgt := 212) hx hb d_MO_go_200 (by decide) (fun q200 => ?_) (fun q200 => ?_)
    · have hp := hp.1 q200
      exact J212 σ182 v182_3 _ _ _ w (lv_sub hl [0] rfl) (by rw [← e182, f_MO_go_182, if_pos q200]) hp
    · have hp := hp.2 q200
      refine lv_aload_n hx hb d_MO_go_203 rfl (lv_at hl 1 rfl) ?_
      refine g_MO_sys hc w mw_895 d_MO_go_204 ?_
      refine lv_iconst (v := 1) hx hb d_MO_go_207 (by decide) ?_
      refine a_MO_sys hc w (by unfold vp_in; decide) d_MO_go_208 ?_
      refine lv_if_ne (tgt := 217) hx hb d_MO_go_209 (by decide) (fun q209 => ?_) (fun q209 => ?_)
      · have hp := hp.2 q209
        refine lv_aload_n hx hb d_MO_go_217 rfl (lv_at hl 1 rfl) ?_
        refine g_MO_sys hc w mw_895 d_MO_go_218 ?_
        refine lv_iconst (v := 1) hx hb d_MO_go_221 (by decide) ?_
        refine a_MO_sys hc w (by unfold vp_in; decide) d_MO_go_222 ?_
        refine lv_iconst (v := 1) hx hb d_MO_go_223 (by decide) ?_
        refine lv_isub hx hb d_MO_go_224 ?_
        exact J225 σ182 v182_3 ((m_sys σ182 (Int32.toNatClampNeg (1 : Int32))) - (1 : Int32)) _ _ _ w (lv_sub hl [0] rfl) (by rw [← e182, f_MO_go_182, if_neg q200, if_neg q209]) hp
      · have hp := hp.1 q209
        exact J212 σ182 v182_3 _ _ _ w (lv_sub hl [0] rfl) (by rw [← e182, f_MO_go_182, if_neg q200, if_pos q209]) hp
  have J154 : ∀ (σ154 : MS) (w154_0 : Bool) (H : Heap) (locs : List Loc) (ls : Array Slot), Wd xCl E A s.heap H locs (mW E ad σ154) → lv_has ls 4 [(0, .ref (ad 0))] → zZ (f_MO_go_154 σ154 w154_0) = Z → P_MO_go_154 σ154 w154_0 → W p l e (rmo 6 153) s m ([.ref (ad 0)] : List Value).toArray below meth c H locs 0 0 (MQ below (rQ xCl (mW E ad) E A Z) ([.ref (ad 0)] : List Value).toArray s 0 0 A) (F0 m 154 ls [.int (zb w154_0)]) := by
    intro σ154 w154_0 H locs ls w hl e154 hp
    unfold P_MO_go_154 at hp
    refine lv_istore_n (lv' := [(3, .int (zb w154_0)), (0, .ref (ad 0))]) hx hb d_MO_go_154 rfl hl (by decide) rfl (fun ls hl => ?_)
    refine lv_iload_n hx hb d_MO_go_155 rfl (lv_at hl 0 rfl) ?_
    refine lv_if_eq (tgt := 166) hx hb d_MO_go_156 (by decide) (fun q156 => ?_) (fun q156 => ?_)
    · have hp := hp.1 q156
      refine lv_aload_n hx hb d_MO_go_166 rfl (lv_at hl 1 rfl) ?_
      refine lv_aload_n hx hb d_MO_go_167 rfl (lv_at hl 1 rfl) ?_
      refine g_MO_next hc w mw_909 d_MO_go_168 ?_
      refine p_MO_pc hc w mw_891 d_MO_go_171 (fun σ171 H locs hs171 w => ?_)
      rw [hs171] at hp
      unfold P_MO_go_c14 at hp
      have e_c14 : zZ (f_MO_go_c14 σ171  w154_0) = Z := by rw [← e154, f_MO_go_154, if_pos q156, hs171]
      refine lv_aload_n hx hb d_MO_go_174 rfl (lv_at hl 1 rfl) ?_
      refine lv_aload_n hx hb d_MO_go_175 rfl (lv_at hl 1 rfl) ?_
      refine g_MO_nextSlot hc w mw_910 d_MO_go_176 ?_
      refine p_MO_slot (v := m_nextSlot σ171) hc w mw_894 d_MO_go_179 (fun σ179 H locs hs179 w => ?_)
      rw [hs179] at hp
      unfold P_MO_go_c15 at hp
      have e_c15 : zZ (f_MO_go_c15 σ179  w154_0) = Z := by rw [← e_c14, f_MO_go_c14, hs179]
      exact J182 σ179 w154_0 _ _ _ w (lv_sub hl [0, 1] rfl) (by rw [← e_c15, f_MO_go_c15]) hp
    · have hp := hp.2 q156
      refine lv_aload_n hx hb d_MO_go_159 rfl (lv_at hl 1 rfl) ?_
      obtain ⟨hP160, hp⟩ := hp
      refine cVV (rest := []) hc w (c_MO_enter l E ad σ154 hP160) kv_MO_enter mw_1033 0 rfl rfl ⟨Nat.le_of_ble_eq_true rfl, Nat.le_of_ble_eq_true rfl⟩ hl.1 rfl (Nat.le_of_ble_eq_true rfl) ⟨Nat.zero_le _, Nat.zero_le _⟩ d_MO_go_160 (fun z160 H locs hs160 w => ?_)
      rw [hs160] at hp
      unfold P_MO_go_c16 at hp
      have e_c16 : zZ (f_MO_go_c16 z160  w154_0) = Z := by rw [← e154, f_MO_go_154, if_neg q156, hs160]
      refine lv_goto (tgt := 182) hx hb d_MO_go_163 (by decide) ?_
      exact J182 z160 w154_0 _ _ _ w (lv_sub hl [0, 1] rfl) (by rw [← e_c16, f_MO_go_c16]) hp
  have J142 : ∀ (σ142 : MS) (H : Heap) (locs : List Loc) (ls : Array Slot), Wd xCl E A s.heap H locs (mW E ad σ142) → lv_has ls 4 [(0, .ref (ad 0))] → zZ (f_MO_go_142 σ142) = Z → P_MO_go_142 σ142 → W p l e (rmo 6 153) s m ([.ref (ad 0)] : List Value).toArray below meth c H locs 0 0 (MQ below (rQ xCl (mW E ad) E A Z) ([.ref (ad 0)] : List Value).toArray s 0 0 A) (F0 m 142 ls []) := by
    intro σ142 H locs ls w hl e142 hp
    unfold P_MO_go_142 at hp
    refine lv_aload_n hx hb d_MO_go_142 rfl (lv_at hl 0 rfl) ?_
    refine g_MO_fault hc w mw_904 d_MO_go_143 ?_
    refine lv_if_lt (tgt := 153) hx hb d_MO_go_146 (by decide) (fun q146 => ?_) (fun q146 => ?_)
    · have hp := hp.1 q146
      refine lv_iconst (v := 0) hx hb d_MO_go_153 (by decide) ?_
      exact J154 σ142 false _ _ _ w (lv_sub hl [0] rfl) (by rw [← e142, f_MO_go_142, if_pos q146]) hp
    · have hp := hp.2 q146
      refine lv_iconst (v := 1) hx hb d_MO_go_149 (by decide) ?_
      refine lv_goto (tgt := 154) hx hb d_MO_go_150 (by decide) ?_
      exact J154 σ142 true _ _ _ w (lv_sub hl [0] rfl) (by rw [← e142, f_MO_go_142, if_neg q146]) hp
  have J114 : ∀ (σ114 : MS) (v114_1 : Int64) (w114_1 : Int32) (H : Heap) (locs : List Loc) (ls : Array Slot), Wd xCl E A s.heap H locs (mW E ad σ114) → lv_has ls 4 [(1, .long v114_1), (0, .ref (ad 0))] → zZ (f_MO_go_114 σ114 v114_1 w114_1) = Z → P_MO_go_114 σ114 v114_1 w114_1 → W p l e (rmo 6 153) s m ([.ref (ad 0)] : List Value).toArray below meth c H locs 0 0 (MQ below (rQ xCl (mW E ad) E A Z) ([.ref (ad 0)] : List Value).toArray s 0 0 A) (F0 m 114 ls [.int w114_1, .ref (ad 0)]) := by
    intro σ114 v114_1 w114_1 H locs ls w hl e114 hp
    unfold P_MO_go_114 at hp
    refine p_MO_next hc w mw_909 d_MO_go_114 (fun σ114 H locs hs114 w => ?_)
    rw [hs114] at hp
    unfold P_MO_go_c11 at hp
    have e_c11 : zZ (f_MO_go_c11 σ114  v114_1) = Z := by rw [← e114, f_MO_go_114, hs114]
    refine lv_aload_n hx hb d_MO_go_117 rfl (lv_at hl 1 rfl) ?_
    refine lv_iconst (v := 0) hx hb d_MO_go_118 (by decide) ?_
    refine p_MO_nextSlot (v := false) hc w mw_910 d_MO_go_119 (fun σ119 H locs hs119 w => ?_)
    rw [hs119] at hp
    unfold P_MO_go_c12 at hp
    have e_c12 : zZ (f_MO_go_c12 σ119  v114_1) = Z := by rw [← e_c11, f_MO_go_c11, hs119]
    refine lv_aload_n hx hb d_MO_go_122 rfl (lv_at hl 1 rfl) ?_
    refine g_MO_fault hc w mw_904 d_MO_go_123 ?_
    refine lv_if_ge (tgt := 142) hx hb d_MO_go_126 (by decide) (fun q126 => ?_) (fun q126 => ?_)
    · have hp := hp.1 q126
      exact J142 σ119 _ _ _ w (lv_sub hl [1] rfl) (by rw [← e_c12, f_MO_go_c12, if_pos q126]) hp
    · have hp := hp.2 q126
      refine lv_aload_n hx hb d_MO_go_129 rfl (lv_at hl 1 rfl) ?_
      refine lv_aload_n hx hb d_MO_go_130 rfl (lv_at hl 1 rfl) ?_
      refine g_MO_memory hc w mw_887 d_MO_go_131 ?_
      refine lv_lload_n hx hb d_MO_go_134 rfl (lv_at hl 0 rfl) ?_
      refine lv_l2i hx hb d_MO_go_135 rfl ?_
      refine lv_iconst (v := 4) hx hb d_MO_go_136 (by decide) ?_
      refine lv_idiv hx hb d_MO_go_137 (by decide) ?_
      obtain ⟨hb138, hp⟩ := hp
      refine a_MO_memory hc w hb138 d_MO_go_138 ?_
      obtain ⟨hP139, hp⟩ := hp
      refine cVV (rest := []) hc w (c_MO_perform l E ad σ119 (m_memory σ119 (Int32.toNatClampNeg ((Int64.toInt32 v114_1) / (4 : Int32)))) hP139) kv_MO_perform mw_1071 0 rfl rfl ⟨Nat.le_of_ble_eq_true rfl, Nat.le_of_ble_eq_true rfl⟩ hl.1 rfl (Nat.le_of_ble_eq_true rfl) ⟨Nat.zero_le _, Nat.zero_le _⟩ d_MO_go_139 (fun z139 H locs hs139 w => ?_)
      rw [hs139] at hp
      unfold P_MO_go_c13 at hp
      have e_c13 : zZ (f_MO_go_c13 z139  ) = Z := by rw [← e_c12, f_MO_go_c12, if_neg q126, hs139]
      exact J142 z139 _ _ _ w (lv_sub hl [1] rfl) (by rw [← e_c13, f_MO_go_c13]) hp
  have J63 : ∀ (σ63 : MS) (H : Heap) (locs : List Loc) (ls : Array Slot), Wd xCl E A s.heap H locs (mW E ad σ63) → lv_has ls 4 [(0, .ref (ad 0))] → zZ (f_MO_go_63 σ63) = Z → P_MO_go_63 σ63 → W p l e (rmo 6 153) s m ([.ref (ad 0)] : List Value).toArray below meth c H locs 0 0 (MQ below (rQ xCl (mW E ad) E A Z) ([.ref (ad 0)] : List Value).toArray s 0 0 A) (F0 m 63 ls []) := by
    intro σ63 H locs ls w hl e63 hp
    unfold P_MO_go_63 at hp
    refine lv_aload_n hx hb d_MO_go_63 rfl (lv_at hl 0 rfl) ?_
    refine rVZ (rest := []) hc w (c_MO_isCalled l E ad σ63) kv_MO_isCalled mw_1024 0 rfl rfl ⟨Nat.le_of_ble_eq_true rfl, Nat.le_of_ble_eq_true rfl⟩ hl.1 rfl (Nat.le_of_ble_eq_true rfl) ⟨Nat.zero_le _, Nat.zero_le _⟩ d_MO_go_64 (fun H locs w => ?_)
    refine lv_if_eq (tgt := 81) hx hb d_MO_go_67 (by decide) (fun q67 => ?_) (fun q67 => ?_)
    · have hp := hp.1 q67
      refine lv_aload_n hx hb d_MO_go_81 rfl (lv_at hl 0 rfl) ?_
      refine lv_aload_n hx hb d_MO_go_82 rfl (lv_at hl 0 rfl) ?_
      refine g_MO_pc hc w mw_891 d_MO_go_83 ?_
      refine lv_iconst (v := 4) hx hb d_MO_go_86 (by decide) ?_
      refine lv_iconst (v := 0) hx hb d_MO_go_87 (by decide) ?_
      refine lv_iconst (v := 1) hx hb d_MO_go_88 (by decide) ?_
      obtain ⟨hP89, hp⟩ := hp
      refine cVL (rest := []) hc w (c_MO_aligned l E ad σ63 (m_pc σ63) (4 : Int32) false true hP89) kv_MO_aligned mw_1041 0 rfl rfl ⟨Nat.le_of_ble_eq_true rfl, Nat.le_of_ble_eq_true rfl⟩ hl.1 rfl (Nat.le_of_ble_eq_true rfl) ⟨Nat.zero_le _, Nat.zero_le _⟩ d_MO_go_89 (fun z89 H locs hs89 w => ?_)
      rw [hs89] at hp
      unfold P_MO_go_c8 at hp
      have e_c8 : zZ (f_MO_go_c8 z89  ) = Z := by rw [← e63, f_MO_go_63, if_pos q67, hs89]
      refine lv_lstore_n (lv' := [(1, .long z89.2), (0, .ref (ad 0))]) hx hb d_MO_go_92 rfl hl (by decide) rfl (fun ls hl => ?_)
      refine lv_aload_n hx hb d_MO_go_93 rfl (lv_at hl 1 rfl) ?_
      refine lv_aload_n hx hb d_MO_go_94 rfl (lv_at hl 1 rfl) ?_
      refine g_MO_slot hc w mw_894 d_MO_go_95 ?_
      refine lv_if_eq (tgt := 108) hx hb d_MO_go_98 (by decide) (fun q98 => ?_) (fun q98 => ?_)
      · have hp := hp.1 q98
        refine lv_aload_n hx hb d_MO_go_108 rfl (lv_at hl 1 rfl) ?_
        refine g_MO_pc hc w mw_891 d_MO_go_109 ?_
        refine lv_iconst (v := 4) hx hb d_MO_go_112 (by decide) ?_
        refine lv_iadd hx hb d_MO_go_113 ?_
        exact J114 z89.1 z89.2 ((m_pc z89.1) + (4 : Int32)) _ _ _ w (lv_sub hl [0, 1] rfl) (by rw [← e_c8, f_MO_go_c8, if_pos q98]) hp
      · have hp := hp.2 q98
        refine lv_aload_n hx hb d_MO_go_101 rfl (lv_at hl 1 rfl) ?_
        refine g_MO_target hc w mw_892 d_MO_go_102 ?_
        refine lv_goto (tgt := 114) hx hb d_MO_go_105 (by decide) ?_
        exact J114 z89.1 z89.2 (m_target z89.1) _ _ _ w (lv_sub hl [0, 1] rfl) (by rw [← e_c8, f_MO_go_c8, if_neg q98]) hp
    · have hp := hp.2 q67
      refine lv_aload_n hx hb d_MO_go_70 rfl (lv_at hl 0 rfl) ?_
      refine lv_iconst (v := 0) hx hb d_MO_go_71 (by decide) ?_
      refine p_MO_fault hc w mw_904 d_MO_go_72 (fun σ72 H locs hs72 w => ?_)
      rw [hs72] at hp
      unfold P_MO_go_c9 at hp
      have e_c9 : zZ (f_MO_go_c9 σ72  ) = Z := by rw [← e63, f_MO_go_63, if_neg q67, hs72]
      refine lv_aload_n hx hb d_MO_go_75 rfl (lv_at hl 0 rfl) ?_
      obtain ⟨hP76, hp⟩ := hp
      refine cVV (rest := []) hc w (c_MO_enter l E ad σ72 hP76) kv_MO_enter mw_1033 0 rfl rfl ⟨Nat.le_of_ble_eq_true rfl, Nat.le_of_ble_eq_true rfl⟩ hl.1 rfl (Nat.le_of_ble_eq_true rfl) ⟨Nat.zero_le _, Nat.zero_le _⟩ d_MO_go_76 (fun z76 H locs hs76 w => ?_)
      rw [hs76] at hp
      unfold P_MO_go_c10 at hp
      have e_c10 : zZ (f_MO_go_c10 z76  ) = Z := by rw [← e_c9, f_MO_go_c9, hs76]
      refine lv_iconst (v := 1) hx hb d_MO_go_79 (by decide) ?_
      exact rt_z (v := true) hc w d_MO_go_80 rfl (by rw [← e_c10, f_MO_go_c10] <;> rfl)
  unfold P_MO_go at hp
  refine lv_aload_n hx hb d_MO_go_0 rfl (lv_at hl 0 rfl) ?_
  refine lv_dup hx hb d_MO_go_1 rfl ?_
  refine g_MO_steps hc w mw_902 d_MO_go_2 ?_
  refine lv_iconst (v := 1) hx hb d_MO_go_5 (by decide) ?_
  refine lv_iadd hx hb d_MO_go_6 ?_
  refine p_MO_steps hc w mw_902 d_MO_go_7 (fun σ7 H locs hs7 w => ?_)
  rw [hs7] at hp
  unfold P_MO_go_c1 at hp
  have e_c1 : zZ (f_MO_go_c1 σ7  ) = Z := by rw [← e0, f_MO_go, hs7]
  refine lv_aload_n hx hb d_MO_go_10 rfl (lv_at hl 0 rfl) ?_
  refine lv_iconst (v := -1) hx hb d_MO_go_11 (by decide) ?_
  refine p_MO_fault hc w mw_904 d_MO_go_12 (fun σ12 H locs hs12 w => ?_)
  rw [hs12] at hp
  unfold P_MO_go_c2 at hp
  have e_c2 : zZ (f_MO_go_c2 σ12  ) = Z := by rw [← e_c1, f_MO_go_c1, hs12]
  refine lv_aload_n hx hb d_MO_go_15 rfl (lv_at hl 0 rfl) ?_
  refine lv_iconst (v := 0) hx hb d_MO_go_16 (by decide) ?_
  refine p_MO_hasAddress (v := false) hc w mw_907 d_MO_go_17 (fun σ17 H locs hs17 w => ?_)
  rw [hs17] at hp
  unfold P_MO_go_c3 at hp
  have e_c3 : zZ (f_MO_go_c3 σ17  ) = Z := by rw [← e_c2, f_MO_go_c2, hs17]
  refine lv_aload_n hx hb d_MO_go_20 rfl (lv_at hl 0 rfl) ?_
  refine lv_iconst (v := 0) hx hb d_MO_go_21 (by decide) ?_
  refine p_MO_refills (v := false) hc w mw_908 d_MO_go_22 (fun σ22 H locs hs22 w => ?_)
  rw [hs22] at hp
  unfold P_MO_go_c4 at hp
  have e_c4 : zZ (f_MO_go_c4 σ22  ) = Z := by rw [← e_c3, f_MO_go_c3, hs22]
  refine lv_aload_n hx hb d_MO_go_25 rfl (lv_at hl 0 rfl) ?_
  refine lv_iconst (v := 0) hx hb d_MO_go_26 (by decide) ?_
  refine p_MO_unit hc w mw_906 d_MO_go_27 (fun σ27 H locs hs27 w => ?_)
  rw [hs27] at hp
  unfold P_MO_go_c5 at hp
  have e_c5 : zZ (f_MO_go_c5 σ27  ) = Z := by rw [← e_c4, f_MO_go_c4, hs27]
  refine lv_aload_n hx hb d_MO_go_30 rfl (lv_at hl 0 rfl) ?_
  refine g_MO_sys hc w mw_895 d_MO_go_31 ?_
  refine lv_bipush (v := 9) hx hb d_MO_go_34 (by decide) ?_
  refine lv_dup2_11 hx hb d_MO_go_36 rfl rfl ?_
  refine a_MO_sys hc w (by unfold vp_in; decide) d_MO_go_37 ?_
  refine lv_iconst (v := 1) hx hb d_MO_go_38 (by decide) ?_
  refine lv_iadd hx hb d_MO_go_39 ?_
  refine s_MO_sys hc w (by unfold vp_in; decide) d_MO_go_40 (fun σ40 H locs hs40 w => ?_)
  rw [hs40] at hp
  unfold P_MO_go_c6 at hp
  have e_c6 : zZ (f_MO_go_c6 σ40  ) = Z := by rw [← e_c5, f_MO_go_c5, hs40]
  refine lv_aload_n hx hb d_MO_go_41 rfl (lv_at hl 0 rfl) ?_
  refine g_MO_sys hc w mw_895 d_MO_go_42 ?_
  refine lv_bipush (v := 9) hx hb d_MO_go_45 (by decide) ?_
  refine a_MO_sys hc w (by unfold vp_in; decide) d_MO_go_47 ?_
  refine lv_aload_n hx hb d_MO_go_48 rfl (lv_at hl 0 rfl) ?_
  refine g_MO_sys hc w mw_895 d_MO_go_49 ?_
  refine lv_bipush (v := 11) hx hb d_MO_go_52 (by decide) ?_
  refine a_MO_sys hc w (by unfold vp_in; decide) d_MO_go_54 ?_
  refine lv_icmp_ne (tgt := 63) hx hb d_MO_go_55 (by decide) (fun q55 => ?_) (fun q55 => ?_)
  · have hp := hp.2 q55
    exact J63 σ40 _ _ _ w (lv_sub hl [0] rfl) (by rw [← e_c6, f_MO_go_c6, if_neg q55]) hp
  · have hp := hp.1 q55
    refine lv_aload_n hx hb d_MO_go_58 rfl (lv_at hl 0 rfl) ?_
    refine lv_iconst (v := 1) hx hb d_MO_go_59 (by decide) ?_
    refine p_MO_timer (v := true) hc w mw_896 d_MO_go_60 (fun σ60 H locs hs60 w => ?_)
    rw [hs60] at hp
    unfold P_MO_go_c7 at hp
    have e_c7 : zZ (f_MO_go_c7 σ60  ) = Z := by rw [← e_c6, f_MO_go_c6, if_pos q55, hs60]
    exact J63 σ60 _ _ _ w (lv_sub hl [0] rfl) (by rw [← e_c7, f_MO_go_c7]) hp
