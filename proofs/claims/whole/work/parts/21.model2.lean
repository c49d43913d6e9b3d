-- MO_physical
def f_MO_physical_c5 (z142 : MS × Bool) (a1 : Int32) (a2 : Bool) (a3 : Bool)  : MS × Int64 := (z142.1, (-1 : Int64))
def f_MO_physical_141 (σ : MS) (a1 : Int32) (a2 : Bool) (a3 : Bool) (w141_1 : Int32) : MS × Int64 := f_MO_physical_c5 (f_MO_wrong σ w141_1 a1) a1 a2 a3 
def f_MO_physical_127 (σ : MS) (a1 : Int32) (a2 : Bool) (a3 : Bool) (v127_8 : Int32) (v127_4 : Int32) : MS × Int64 := if (v127_8 &&& (2 : Int32)) = 0 then (f_MO_physical_141 σ a1 a2 a3 v127_4) else (f_MO_physical_141 σ a1 a2 a3 (1 : Int32))
def f_MO_physical_c4 (σ193 : MS) (a1 : Int32) (a2 : Bool) (a3 : Bool)  : MS × Int64 := (σ193, (-1 : Int64))
def f_MO_physical_193 (σ : MS) (a1 : Int32) (a2 : Bool) (a3 : Bool) (w193_1 : Int32) : MS × Int64 := f_MO_physical_c4 (ms_fault σ w193_1) a1 a2 a3 
def f_MO_physical_172 (σ : MS) (a1 : Int32) (a2 : Bool) (a3 : Bool) (v172_5 : Int64) : MS × Int64 := if (lg_cmp v172_5 (262144 : Int64)) < 0 then ((σ, v172_5)) else (if (zb a3) = 0 then (f_MO_physical_193 σ a1 a2 a3 (7 : Int32)) else (f_MO_physical_193 σ a1 a2 a3 (6 : Int32)))
def f_MO_physical_150 (σ : MS) (a1 : Int32) (a2 : Bool) (a3 : Bool) (v150_8 : Int32) : MS × Int64 := f_MO_physical_172 σ a1 a2 a3 (((Int32.toInt64 ((v150_8 >>> ((6 : Int32) &&& 31)) &&& (1048575 : Int32))) * (4096 : Int64)) + (Int32.toInt64 (a1 &&& (4095 : Int32))))
def f_MO_physical_c3 (σ84 : MS) (a1 : Int32) (a2 : Bool) (a3 : Bool)  : MS × Int64 := (σ84, (-1 : Int64))
def f_MO_physical_c2 (z78 : MS × Bool) (a1 : Int32) (a2 : Bool) (a3 : Bool)  : MS × Int64 := f_MO_physical_c3 (ms_refills z78.1 true) a1 a2 a3 
def f_MO_physical_58 (σ : MS) (a1 : Int32) (a2 : Bool) (a3 : Bool) (v58_4 : Int32) : MS × Int64 := if 0 ≤ (f_MO_entryOf σ (a1 &&& (-8192 : Int32))) then (if ((m_halves σ (Int32.toNatClampNeg (((2 : Int32) * (f_MO_entryOf σ (a1 &&& (-8192 : Int32)))) + ((a1 >>> ((12 : Int32) &&& 31)) &&& (1 : Int32))))) &&& (2 : Int32)) = 0 then (f_MO_physical_127 σ a1 a2 a3 (m_halves σ (Int32.toNatClampNeg (((2 : Int32) * (f_MO_entryOf σ (a1 &&& (-8192 : Int32)))) + ((a1 >>> ((12 : Int32) &&& 31)) &&& (1 : Int32))))) v58_4) else (if (zb a2) = 0 then (f_MO_physical_150 σ a1 a2 a3 (m_halves σ (Int32.toNatClampNeg (((2 : Int32) * (f_MO_entryOf σ (a1 &&& (-8192 : Int32)))) + ((a1 >>> ((12 : Int32) &&& 31)) &&& (1 : Int32)))))) else (if ((m_halves σ (Int32.toNatClampNeg (((2 : Int32) * (f_MO_entryOf σ (a1 &&& (-8192 : Int32)))) + ((a1 >>> ((12 : Int32) &&& 31)) &&& (1 : Int32))))) &&& (4 : Int32)) = 0 then (f_MO_physical_127 σ a1 a2 a3 (m_halves σ (Int32.toNatClampNeg (((2 : Int32) * (f_MO_entryOf σ (a1 &&& (-8192 : Int32)))) + ((a1 >>> ((12 : Int32) &&& 31)) &&& (1 : Int32))))) v58_4) else (f_MO_physical_150 σ a1 a2 a3 (m_halves σ (Int32.toNatClampNeg (((2 : Int32) * (f_MO_entryOf σ (a1 &&& (-8192 : Int32)))) + ((a1 >>> ((12 : Int32) &&& 31)) &&& (1 : Int32))))))))) else (f_MO_physical_c2 (f_MO_wrong σ v58_4 a1) a1 a2 a3 )
def f_MO_physical_48 (σ : MS) (a1 : Int32) (a2 : Bool) (a3 : Bool) (v48_5 : Int64) (v48_4 : Int32) : MS × Int64 := if 0 ≤ a1 then (f_MO_physical_58 σ a1 a2 a3 v48_4) else (if a1 < (-1073741824 : Int32) then (f_MO_physical_172 σ a1 a2 a3 v48_5) else (f_MO_physical_58 σ a1 a2 a3 v48_4))
def f_MO_physical_c1 (z40 : MS × Bool) (a1 : Int32) (a2 : Bool) (a3 : Bool)  : MS × Int64 := (z40.1, (-1 : Int64))
def f_MO_physical_39 (σ : MS) (a1 : Int32) (a2 : Bool) (a3 : Bool) (w39_1 : Int32) : MS × Int64 := f_MO_physical_c1 (f_MO_wrong σ w39_1 a1) a1 a2 a3 
def f_MO_physical_9 (σ : MS) (a1 : Int32) (a2 : Bool) (a3 : Bool) (w9_0 : Int32) : MS × Int64 := if 0 ≤ a1 then (f_MO_physical_48 σ a1 a2 a3 (Int32.toInt64 (a1 &&& (536870911 : Int32))) w9_0) else (if (zb (f_MO_isUser σ)) = 0 then (f_MO_physical_48 σ a1 a2 a3 (Int32.toInt64 (a1 &&& (536870911 : Int32))) w9_0) else (if (zb a2) = 0 then (f_MO_physical_39 σ a1 a2 a3 (4 : Int32)) else (f_MO_physical_39 σ a1 a2 a3 (5 : Int32))))
def f_MO_physical (σ : MS) (a1 : Int32) (a2 : Bool) (a3 : Bool) : MS × Int64 := if (zb a2) = 0 then (f_MO_physical_9 σ a1 a2 a3 (2 : Int32)) else (f_MO_physical_9 σ a1 a2 a3 (3 : Int32))
def P_MO_physical_c5 (z142 : MS × Bool) (a1 : Int32) (a2 : Bool) (a3 : Bool)  : Prop := True
def P_MO_physical_141 (σ : MS) (a1 : Int32) (a2 : Bool) (a3 : Bool) (w141_1 : Int32) : Prop := P_MO_physical_c5 (f_MO_wrong σ w141_1 a1) a1 a2 a3 
def P_MO_physical_127 (σ : MS) (a1 : Int32) (a2 : Bool) (a3 : Bool) (v127_8 : Int32) (v127_4 : Int32) : Prop := (((v127_8 &&& (2 : Int32)) = 0) → (P_MO_physical_141 σ a1 a2 a3 v127_4)) ∧ (¬ ((v127_8 &&& (2 : Int32)) = 0) → (P_MO_physical_141 σ a1 a2 a3 (1 : Int32)))
def P_MO_physical_c4 (σ193 : MS) (a1 : Int32) (a2 : Bool) (a3 : Bool)  : Prop := True
def P_MO_physical_193 (σ : MS) (a1 : Int32) (a2 : Bool) (a3 : Bool) (w193_1 : Int32) : Prop := P_MO_physical_c4 (ms_fault σ w193_1) a1 a2 a3 
def P_MO_physical_172 (σ : MS) (a1 : Int32) (a2 : Bool) (a3 : Bool) (v172_5 : Int64) : Prop := (((lg_cmp v172_5 (262144 : Int64)) < 0) → (True)) ∧ (¬ ((lg_cmp v172_5 (262144 : Int64)) < 0) → ((((zb a3) = 0) → (P_MO_physical_193 σ a1 a2 a3 (7 : Int32))) ∧ (¬ ((zb a3) = 0) → (P_MO_physical_193 σ a1 a2 a3 (6 : Int32)))))
def P_MO_physical_150 (σ : MS) (a1 : Int32) (a2 : Bool) (a3 : Bool) (v150_8 : Int32) : Prop := P_MO_physical_172 σ a1 a2 a3 (((Int32.toInt64 ((v150_8 >>> ((6 : Int32) &&& 31)) &&& (1048575 : Int32))) * (4096 : Int64)) + (Int32.toInt64 (a1 &&& (4095 : Int32))))
def P_MO_physical_c3 (σ84 : MS) (a1 : Int32) (a2 : Bool) (a3 : Bool)  : Prop := True
def P_MO_physical_c2 (z78 : MS × Bool) (a1 : Int32) (a2 : Bool) (a3 : Bool)  : Prop := P_MO_physical_c3 (ms_refills z78.1 true) a1 a2 a3 
def P_MO_physical_58 (σ : MS) (a1 : Int32) (a2 : Bool) (a3 : Bool) (v58_4 : Int32) : Prop := ((0 ≤ (f_MO_entryOf σ (a1 &&& (-8192 : Int32)))) → (vp_in (((2 : Int32) * (f_MO_entryOf σ (a1 &&& (-8192 : Int32)))) + ((a1 >>> ((12 : Int32) &&& 31)) &&& (1 : Int32))) 64 ∧ ((((m_halves σ (Int32.toNatClampNeg (((2 : Int32) * (f_MO_entryOf σ (a1 &&& (-8192 : Int32)))) + ((a1 >>> ((12 : Int32) &&& 31)) &&& (1 : Int32))))) &&& (2 : Int32)) = 0) → (P_MO_physical_127 σ a1 a2 a3 (m_halves σ (Int32.toNatClampNeg (((2 : Int32) * (f_MO_entryOf σ (a1 &&& (-8192 : Int32)))) + ((a1 >>> ((12 : Int32) &&& 31)) &&& (1 : Int32))))) v58_4)) ∧ (¬ (((m_halves σ (Int32.toNatClampNeg (((2 : Int32) * (f_MO_entryOf σ (a1 &&& (-8192 : Int32)))) + ((a1 >>> ((12 : Int32) &&& 31)) &&& (1 : Int32))))) &&& (2 : Int32)) = 0) → ((((zb a2) = 0) → (P_MO_physical_150 σ a1 a2 a3 (m_halves σ (Int32.toNatClampNeg (((2 : Int32) * (f_MO_entryOf σ (a1 &&& (-8192 : Int32)))) + ((a1 >>> ((12 : Int32) &&& 31)) &&& (1 : Int32))))))) ∧ (¬ ((zb a2) = 0) → (((((m_halves σ (Int32.toNatClampNeg (((2 : Int32) * (f_MO_entryOf σ (a1 &&& (-8192 : Int32)))) + ((a1 >>> ((12 : Int32) &&& 31)) &&& (1 : Int32))))) &&& (4 : Int32)) = 0) → (P_MO_physical_127 σ a1 a2 a3 (m_halves σ (Int32.toNatClampNeg (((2 : Int32) * (f_MO_entryOf σ (a1 &&& (-8192 : Int32)))) + ((a1 >>> ((12 : Int32) &&& 31)) &&& (1 : Int32))))) v58_4)) ∧ (¬ (((m_halves σ (Int32.toNatClampNeg (((2 : Int32) * (f_MO_entryOf σ (a1 &&& (-8192 : Int32)))) + ((a1 >>> ((12 : Int32) &&& 31)) &&& (1 : Int32))))) &&& (4 : Int32)) = 0) → (P_MO_physical_150 σ a1 a2 a3 (m_halves σ (Int32.toNatClampNeg (((2 : Int32) * (f_MO_entryOf σ (a1 &&& (-8192 : Int32)))) + ((a1 >>> ((12 : Int32) &&& 31)) &&& (1 : Int32))))))))))))) ∧ (¬ (0 ≤ (f_MO_entryOf σ (a1 &&& (-8192 : Int32)))) → (P_MO_physical_c2 (f_MO_wrong σ v58_4 a1) a1 a2 a3 ))
def P_MO_physical_48 (σ : MS) (a1 : Int32) (a2 : Bool) (a3 : Bool) (v48_5 : Int64) (v48_4 : Int32) : Prop := ((0 ≤ a1) → (P_MO_physical_58 σ a1 a2 a3 v48_4)) ∧ (¬ (0 ≤ a1) → (((a1 < (-1073741824 : Int32)) → (P_MO_physical_172 σ a1 a2 a3 v48_5)) ∧ (¬ (a1 < (-1073741824 : Int32)) → (P_MO_physical_58 σ a1 a2 a3 v48_4))))
def P_MO_physical_c1 (z40 : MS × Bool) (a1 : Int32) (a2 : Bool) (a3 : Bool)  : Prop := True
def P_MO_physical_39 (σ : MS) (a1 : Int32) (a2 : Bool) (a3 : Bool) (w39_1 : Int32) : Prop := P_MO_physical_c1 (f_MO_wrong σ w39_1 a1) a1 a2 a3 
def P_MO_physical_9 (σ : MS) (a1 : Int32) (a2 : Bool) (a3 : Bool) (w9_0 : Int32) : Prop := ((0 ≤ a1) → (P_MO_physical_48 σ a1 a2 a3 (Int32.toInt64 (a1 &&& (536870911 : Int32))) w9_0)) ∧ (¬ (0 ≤ a1) → ((((zb (f_MO_isUser σ)) = 0) → (P_MO_physical_48 σ a1 a2 a3 (Int32.toInt64 (a1 &&& (536870911 : Int32))) w9_0)) ∧ (¬ ((zb (f_MO_isUser σ)) = 0) → ((((zb a2) = 0) → (P_MO_physical_39 σ a1 a2 a3 (4 : Int32))) ∧ (¬ ((zb a2) = 0) → (P_MO_physical_39 σ a1 a2 a3 (5 : Int32)))))))
def P_MO_physical (σ : MS) (a1 : Int32) (a2 : Bool) (a3 : Bool) : Prop := (((zb a2) = 0) → (P_MO_physical_9 σ a1 a2 a3 (2 : Int32))) ∧ (¬ ((zb a2) = 0) → (P_MO_physical_9 σ a1 a2 a3 (3 : Int32)))
theorem d_MO_physical_0 : decode b_MO_physical 0 = .ok (.iload_n 2, 1) := by decide +kernel
theorem d_MO_physical_1 : decode b_MO_physical 1 = .ok (.ifCond .eq 7, 3) := by decide +kernel
theorem d_MO_physical_4 : decode b_MO_physical 4 = .ok (.iconst 3, 1) := by decide +kernel
theorem d_MO_physical_5 : decode b_MO_physical 5 = .ok (.goto 4, 3) := by decide +kernel
theorem d_MO_physical_8 : decode b_MO_physical 8 = .ok (.iconst 2, 1) := by decide +kernel
theorem d_MO_physical_9 : decode b_MO_physical 9 = .ok (.istore 4, 2) := by decide +kernel
theorem d_MO_physical_11 : decode b_MO_physical 11 = .ok (.iload_n 1, 1) := by decide +kernel
theorem d_MO_physical_12 : decode b_MO_physical 12 = .ok (.ldc 109, 2) := by decide +kernel
theorem d_MO_physical_14 : decode b_MO_physical 14 = .ok (.iand, 1) := by decide +kernel
theorem d_MO_physical_15 : decode b_MO_physical 15 = .ok (.i2l, 1) := by decide +kernel
theorem d_MO_physical_16 : decode b_MO_physical 16 = .ok (.lstore 5, 2) := by decide +kernel
theorem d_MO_physical_18 : decode b_MO_physical 18 = .ok (.iload_n 1, 1) := by decide +kernel
theorem d_MO_physical_19 : decode b_MO_physical 19 = .ok (.ifCond .ge 29, 3) := by decide +kernel
theorem d_MO_physical_22 : decode b_MO_physical 22 = .ok (.aload_n 0, 1) := by decide +kernel
theorem d_MO_physical_23 : decode b_MO_physical 23 = .ok (.invokevirtual 110, 3) := by decide +kernel
theorem d_MO_physical_26 : decode b_MO_physical 26 = .ok (.ifCond .eq 22, 3) := by decide +kernel
theorem d_MO_physical_29 : decode b_MO_physical 29 = .ok (.aload_n 0, 1) := by decide +kernel
theorem d_MO_physical_30 : decode b_MO_physical 30 = .ok (.iload_n 2, 1) := by decide +kernel
theorem d_MO_physical_31 : decode b_MO_physical 31 = .ok (.ifCond .eq 7, 3) := by decide +kernel
theorem d_MO_physical_34 : decode b_MO_physical 34 = .ok (.iconst 5, 1) := by decide +kernel
theorem d_MO_physical_35 : decode b_MO_physical 35 = .ok (.goto 4, 3) := by decide +kernel
theorem d_MO_physical_38 : decode b_MO_physical 38 = .ok (.iconst 4, 1) := by decide +kernel
theorem d_MO_physical_39 : decode b_MO_physical 39 = .ok (.iload_n 1, 1) := by decide +kernel
theorem d_MO_physical_40 : decode b_MO_physical 40 = .ok (.invokevirtual 114, 3) := by decide +kernel
theorem d_MO_physical_43 : decode b_MO_physical 43 = .ok (.pop, 1) := by decide +kernel
theorem d_MO_physical_44 : decode b_MO_physical 44 = .ok (.ldc2_w 117, 3) := by decide +kernel
theorem d_MO_physical_47 : decode b_MO_physical 47 = .ok (.lreturn, 1) := by decide +kernel
theorem d_MO_physical_48 : decode b_MO_physical 48 = .ok (.iload_n 1, 1) := by decide +kernel
theorem d_MO_physical_49 : decode b_MO_physical 49 = .ok (.ifCond .ge 9, 3) := by decide +kernel
theorem d_MO_physical_52 : decode b_MO_physical 52 = .ok (.iload_n 1, 1) := by decide +kernel
theorem d_MO_physical_53 : decode b_MO_physical 53 = .ok (.ldc 119, 2) := by decide +kernel
theorem d_MO_physical_55 : decode b_MO_physical 55 = .ok (.if_icmp .lt 117, 3) := by decide +kernel
theorem d_MO_physical_58 : decode b_MO_physical 58 = .ok (.aload_n 0, 1) := by decide +kernel
theorem d_MO_physical_59 : decode b_MO_physical 59 = .ok (.iload_n 1, 1) := by decide +kernel
theorem d_MO_physical_60 : decode b_MO_physical 60 = .ok (.sipush (-8192), 3) := by decide +kernel
theorem d_MO_physical_63 : decode b_MO_physical 63 = .ok (.iand, 1) := by decide +kernel
theorem d_MO_physical_64 : decode b_MO_physical 64 = .ok (.invokevirtual 120, 3) := by decide +kernel
theorem d_MO_physical_67 : decode b_MO_physical 67 = .ok (.istore 7, 2) := by decide +kernel
theorem d_MO_physical_69 : decode b_MO_physical 69 = .ok (.iload 7, 2) := by decide +kernel
theorem d_MO_physical_71 : decode b_MO_physical 71 = .ok (.ifCond .ge 20, 3) := by decide +kernel
theorem d_MO_physical_74 : decode b_MO_physical 74 = .ok (.aload_n 0, 1) := by decide +kernel
theorem d_MO_physical_75 : decode b_MO_physical 75 = .ok (.iload 4, 2) := by decide +kernel
theorem d_MO_physical_77 : decode b_MO_physical 77 = .ok (.iload_n 1, 1) := by decide +kernel
theorem d_MO_physical_78 : decode b_MO_physical 78 = .ok (.invokevirtual 114, 3) := by decide +kernel
theorem d_MO_physical_81 : decode b_MO_physical 81 = .ok (.pop, 1) := by decide +kernel
theorem d_MO_physical_82 : decode b_MO_physical 82 = .ok (.aload_n 0, 1) := by decide +kernel
theorem d_MO_physical_83 : decode b_MO_physical 83 = .ok (.iconst 1, 1) := by decide +kernel
theorem d_MO_physical_84 : decode b_MO_physical 84 = .ok (.putfield 103, 3) := by decide +kernel
theorem d_MO_physical_87 : decode b_MO_physical 87 = .ok (.ldc2_w 117, 3) := by decide +kernel
theorem d_MO_physical_90 : decode b_MO_physical 90 = .ok (.lreturn, 1) := by decide +kernel
theorem d_MO_physical_91 : decode b_MO_physical 91 = .ok (.aload_n 0, 1) := by decide +kernel
theorem d_MO_physical_92 : decode b_MO_physical 92 = .ok (.getfield 33, 3) := by decide +kernel
theorem d_MO_physical_95 : decode b_MO_physical 95 = .ok (.iconst 2, 1) := by decide +kernel
theorem d_MO_physical_96 : decode b_MO_physical 96 = .ok (.iload 7, 2) := by decide +kernel
theorem d_MO_physical_98 : decode b_MO_physical 98 = .ok (.imul, 1) := by decide +kernel
theorem d_MO_physical_99 : decode b_MO_physical 99 = .ok (.iload_n 1, 1) := by decide +kernel
theorem d_MO_physical_100 : decode b_MO_physical 100 = .ok (.bipush 12, 2) := by decide +kernel
theorem d_MO_physical_102 : decode b_MO_physical 102 = .ok (.ishr, 1) := by decide +kernel
theorem d_MO_physical_103 : decode b_MO_physical 103 = .ok (.iconst 1, 1) := by decide +kernel
theorem d_MO_physical_104 : decode b_MO_physical 104 = .ok (.iand, 1) := by decide +kernel
theorem d_MO_physical_105 : decode b_MO_physical 105 = .ok (.iadd, 1) := by decide +kernel
theorem d_MO_physical_106 : decode b_MO_physical 106 = .ok (.iaload, 1) := by decide +kernel
theorem d_MO_physical_107 : decode b_MO_physical 107 = .ok (.istore 8, 2) := by decide +kernel
theorem d_MO_physical_109 : decode b_MO_physical 109 = .ok (.iload 8, 2) := by decide +kernel
theorem d_MO_physical_111 : decode b_MO_physical 111 = .ok (.iconst 2, 1) := by decide +kernel
theorem d_MO_physical_112 : decode b_MO_physical 112 = .ok (.iand, 1) := by decide +kernel
theorem d_MO_physical_113 : decode b_MO_physical 113 = .ok (.ifCond .eq 14, 3) := by decide +kernel
theorem d_MO_physical_116 : decode b_MO_physical 116 = .ok (.iload_n 2, 1) := by decide +kernel
theorem d_MO_physical_117 : decode b_MO_physical 117 = .ok (.ifCond .eq 33, 3) := by decide +kernel
theorem d_MO_physical_120 : decode b_MO_physical 120 = .ok (.iload 8, 2) := by decide +kernel
theorem d_MO_physical_122 : decode b_MO_physical 122 = .ok (.iconst 4, 1) := by decide +kernel
theorem d_MO_physical_123 : decode b_MO_physical 123 = .ok (.iand, 1) := by decide +kernel
theorem d_MO_physical_124 : decode b_MO_physical 124 = .ok (.ifCond .ne 26, 3) := by decide +kernel
theorem d_MO_physical_127 : decode b_MO_physical 127 = .ok (.aload_n 0, 1) := by decide +kernel
theorem d_MO_physical_128 : decode b_MO_physical 128 = .ok (.iload 8, 2) := by decide +kernel
theorem d_MO_physical_130 : decode b_MO_physical 130 = .ok (.iconst 2, 1) := by decide +kernel
theorem d_MO_physical_131 : decode b_MO_physical 131 = .ok (.iand, 1) := by decide +kernel
theorem d_MO_physical_132 : decode b_MO_physical 132 = .ok (.ifCond .ne 8, 3) := by decide +kernel
theorem d_MO_physical_135 : decode b_MO_physical 135 = .ok (.iload 4, 2) := by decide +kernel
theorem d_MO_physical_137 : decode b_MO_physical 137 = .ok (.goto 4, 3) := by decide +kernel
theorem d_MO_physical_140 : decode b_MO_physical 140 = .ok (.iconst 1, 1) := by decide +kernel
theorem d_MO_physical_141 : decode b_MO_physical 141 = .ok (.iload_n 1, 1) := by decide +kernel
theorem d_MO_physical_142 : decode b_MO_physical 142 = .ok (.invokevirtual 114, 3) := by decide +kernel
theorem d_MO_physical_145 : decode b_MO_physical 145 = .ok (.pop, 1) := by decide +kernel
theorem d_MO_physical_146 : decode b_MO_physical 146 = .ok (.ldc2_w 117, 3) := by decide +kernel
theorem d_MO_physical_149 : decode b_MO_physical 149 = .ok (.lreturn, 1) := by decide +kernel
theorem d_MO_physical_150 : decode b_MO_physical 150 = .ok (.iload 8, 2) := by decide +kernel
theorem d_MO_physical_152 : decode b_MO_physical 152 = .ok (.bipush 6, 2) := by decide +kernel
theorem d_MO_physical_154 : decode b_MO_physical 154 = .ok (.ishr, 1) := by decide +kernel
theorem d_MO_physical_155 : decode b_MO_physical 155 = .ok (.ldc 123, 2) := by decide +kernel
theorem d_MO_physical_157 : decode b_MO_physical 157 = .ok (.iand, 1) := by decide +kernel
theorem d_MO_physical_158 : decode b_MO_physical 158 = .ok (.i2l, 1) := by decide +kernel
theorem d_MO_physical_159 : decode b_MO_physical 159 = .ok (.ldc2_w 124, 3) := by decide +kernel
theorem d_MO_physical_162 : decode b_MO_physical 162 = .ok (.lmul, 1) := by decide +kernel
theorem d_MO_physical_163 : decode b_MO_physical 163 = .ok (.iload_n 1, 1) := by decide +kernel
theorem d_MO_physical_164 : decode b_MO_physical 164 = .ok (.sipush 4095, 3) := by decide +kernel
theorem d_MO_physical_167 : decode b_MO_physical 167 = .ok (.iand, 1) := by decide +kernel
theorem d_MO_physical_168 : decode b_MO_physical 168 = .ok (.i2l, 1) := by decide +kernel
theorem d_MO_physical_169 : decode b_MO_physical 169 = .ok (.ladd, 1) := by decide +kernel
theorem d_MO_physical_170 : decode b_MO_physical 170 = .ok (.lstore 5, 2) := by decide +kernel
theorem d_MO_physical_172 : decode b_MO_physical 172 = .ok (.lload 5, 2) := by decide +kernel
theorem d_MO_physical_174 : decode b_MO_physical 174 = .ok (.ldc2_w 126, 3) := by decide +kernel
theorem d_MO_physical_177 : decode b_MO_physical 177 = .ok (.lcmp, 1) := by decide +kernel
theorem d_MO_physical_178 : decode b_MO_physical 178 = .ok (.ifCond .lt 22, 3) := by decide +kernel
theorem d_MO_physical_181 : decode b_MO_physical 181 = .ok (.aload_n 0, 1) := by decide +kernel
theorem d_MO_physical_182 : decode b_MO_physical 182 = .ok (.iload_n 3, 1) := by decide +kernel
theorem d_MO_physical_183 : decode b_MO_physical 183 = .ok (.ifCond .eq 8, 3) := by decide +kernel
theorem d_MO_physical_186 : decode b_MO_physical 186 = .ok (.bipush 6, 2) := by decide +kernel
theorem d_MO_physical_188 : decode b_MO_physical 188 = .ok (.goto 5, 3) := by decide +kernel
theorem d_MO_physical_191 : decode b_MO_physical 191 = .ok (.bipush 7, 2) := by decide +kernel
theorem d_MO_physical_193 : decode b_MO_physical 193 = .ok (.putfield 45, 3) := by decide +kernel
theorem d_MO_physical_196 : decode b_MO_physical 196 = .ok (.ldc2_w 117, 3) := by decide +kernel
theorem d_MO_physical_199 : decode b_MO_physical 199 = .ok (.lreturn, 1) := by decide +kernel
theorem d_MO_physical_200 : decode b_MO_physical 200 = .ok (.lload 5, 2) := by decide +kernel
theorem d_MO_physical_202 : decode b_MO_physical 202 = .ok (.lreturn, 1) := by decide +kernel
set_option maxHeartbeats 4000000 in
set_option maxRecDepth 100000 in
theorem c_MO_physical (l : Launch) (E : Ev) (ad : Nat → Nat) (σ : MS) (a1 : Int32) (a2 : Bool) (a3 : Bool) (hp : P_MO_physical σ a1 a2 a3) : rC xCl l E (mW E ad) y_MO_physical b_MO_physical 9 (Option.some Jvm.ClassFile.FieldType.long) (rmo 2 45) [.ref (ad 0), .int a1, .int (zb a2), .int (zb a3)] σ (zL (f_MO_physical σ a1 a2 a3)) := by
  refine rC.of (by decide) (Nat.le_of_ble_eq_true rfl) ?_
  intro p e s m below meth c A ls hc w hl
  generalize e0 : zL (f_MO_physical σ a1 a2 a3) = Z
  have hc : Cx xCl E A p s m ([.ref (ad 0), .int a1, .int (zb a2), .int (zb a3)] : List Value).toArray meth c b_MO_physical 9 (Option.some Jvm.ClassFile.FieldType.long) "PageMachineModel" := hc
  have hx := hc.1
  have hb := hc.2.1
  have ho := hc.2.2.2.2.2.1
  have hT := hc.2.2.2.2.2.2.1
  have hl : lv_has ls 9 [(0, .ref (ad 0)), (1, .int a1), (2, .int (zb a2)), (3, .int (zb a3))] := hl
  have J141 : ∀ (w141_1 : Int32) (H : Heap) (locs : List Loc) (ls : Array Slot), Wd xCl E A s.heap H locs (mW E ad σ) → lv_has ls 9 [(1, .int a1)] → zL (f_MO_physical_141 σ a1 a2 a3 w141_1) = Z → P_MO_physical_141 σ a1 a2 a3 w141_1 → W p l e (rmo 2 45) s m ([.ref (ad 0), .int a1, .int (zb a2), .int (zb a3)] : List Value).toArray below meth c H locs 0 0 (MQ below (rQ xCl (mW E ad) E A Z) ([.ref (ad 0), .int a1, .int (zb a2), .int (zb a3)] : List Value).toArray s 0 0 A) (F0 m 141 ls [.int w141_1, .ref (ad 0)]) := by
    intro w141_1 H locs ls w hl e141 hp
    unfold P_MO_physical_141 at hp
    refine lv_iload_n hx hb d_MO_physical_141 rfl (lv_at hl 0 rfl) ?_
    refine cVZ (rest := []) hc w (c_MO_wrong l E ad σ w141_1 a1) kv_MO_wrong mw_1045 0 rfl rfl ⟨Nat.le_of_ble_eq_true rfl, Nat.le_of_ble_eq_true rfl⟩ hl.1 rfl (Nat.le_of_ble_eq_true rfl) ⟨Nat.zero_le _, Nat.zero_le _⟩ d_MO_physical_142 (fun z142 H locs hs142 w => ?_)
    rw [hs142] at hp
    unfold P_MO_physical_c5 at hp
    have e_c5 : zL (f_MO_physical_c5 z142 a1 a2 a3 ) = Z := by rw [← e141, f_MO_physical_141, hs142]
    refine lv_pop hx hb d_MO_physical_145 rfl ?_
    refine lv_ldc2 (v := -1) hx hb ho (hT _ mw_1049) d_MO_physical_146 ?_
    exact rt_l hc w d_MO_physical_149 (by rw [← e_c5, f_MO_physical_c5] <;> rfl)
  have J127 : ∀ (v127_8 : Int32) (v127_4 : Int32) (H : Heap) (locs : List Loc) (ls : Array Slot), Wd xCl E A s.heap H locs (mW E ad σ) → lv_has ls 9 [(8, .int v127_8), (4, .int v127_4), (0, .ref (ad 0)), (1, .int a1)] → zL (f_MO_physical_127 σ a1 a2 a3 v127_8 v127_4) = Z → P_MO_physical_127 σ a1 a2 a3 v127_8 v127_4 → W p l e (rmo 2 45) s m ([.ref (ad 0), .int a1, .int (zb a2), .int (zb a3)] : List Value).toArray below meth c H locs 0 0 (MQ below (rQ xCl (mW E ad) E A Z) ([.ref (ad 0), .int a1, .int (zb a2), .int (zb a3)] : List Value).toArray s 0 0 A) (F0 m 127 ls []) := by
    intro v127_8 v127_4 H locs ls w hl e127 hp
    unfold P_MO_physical_127 at hp
    refine lv_aload_n hx hb d_MO_physical_127 rfl (lv_at hl 2 rfl) ?_
    refine lv_iload hx hb d_MO_physical_128 (lv_at hl 0 rfl) ?_
    refine lv_iconst (v := 2) hx hb d_MO_physical_130 (by decide) ?_
    refine lv_iand hx hb d_MO_physical_131 ?_
    refine lv_if_ne (tgt := 140) hx hb d_MO_physical_132 (by decide) (fun q132 => ?_) (fun q132 => ?_)
    · have hp := hp.2 q132
      refine lv_iconst (v := 1) hx hb d_MO_physical_140 (by decide) ?_
      exact J141 (1 : Int32) _ _ _ w (lv_sub hl [3] rfl) (by rw [← e127, f_MO_physical_127, if_neg q132]) hp
    · have hp := hp.1 q132
      refine lv_iload hx hb d_MO_physical_135 (lv_at hl 1 rfl) ?_
      refine lv_goto (tgt := 141) hx hb d_MO_physical_137 (by decide) ?_
      exact J141 v127_4 _ _ _ w (lv_sub hl [3] rfl) (by rw [← e127, f_MO_physical_127, if_pos q132]) hp
  have J193 : ∀ (w193_1 : Int32) (H : Heap) (locs : List Loc) (ls : Array Slot), Wd xCl E A s.heap H locs (mW E ad σ) → lv_has ls 9 [] → zL (f_MO_physical_193 σ a1 a2 a3 w193_1) = Z → P_MO_physical_193 σ a1 a2 a3 w193_1 → W p l e (rmo 2 45) s m ([.ref (ad 0), .int a1, .int (zb a2), .int (zb a3)] : List Value).toArray below meth c H locs 0 0 (MQ below (rQ xCl (mW E ad) E A Z) ([.ref (ad 0), .int a1, .int (zb a2), .int (zb a3)] : List Value).toArray s 0 0 A) (F0 m 193 ls [.int w193_1, .ref (ad 0)]) := by
    intro w193_1 H locs ls w hl e193 hp
    unfold P_MO_physical_193 at hp
    refine p_MO_fault hc w mw_904 d_MO_physical_193 (fun σ193 H locs hs193 w => ?_)
    rw [hs193] at hp
    unfold P_MO_physical_c4 at hp
    have e_c4 : zL (f_MO_physical_c4 σ193 a1 a2 a3 ) = Z := by rw [← e193, f_MO_physical_193, hs193]
    refine lv_ldc2 (v := -1) hx hb ho (hT _ mw_1049) d_MO_physical_196 ?_
    exact rt_l hc w d_MO_physical_199 (by rw [← e_c4, f_MO_physical_c4] <;> rfl)
  have J172 : ∀ (v172_5 : Int64) (H : Heap) (locs : List Loc) (ls : Array Slot), Wd xCl E A s.heap H locs (mW E ad σ) → lv_has ls 9 [(5, .long v172_5), (0, .ref (ad 0)), (3, .int (zb a3))] → zL (f_MO_physical_172 σ a1 a2 a3 v172_5) = Z → P_MO_physical_172 σ a1 a2 a3 v172_5 → W p l e (rmo 2 45) s m ([.ref (ad 0), .int a1, .int (zb a2), .int (zb a3)] : List Value).toArray below meth c H locs 0 0 (MQ below (rQ xCl (mW E ad) E A Z) ([.ref (ad 0), .int a1, .int (zb a2), .int (zb a3)] : List Value).toArray s 0 0 A) (F0 m 172 ls []) := by
    intro v172_5 H locs ls w hl e172 hp
    unfold P_MO_physical_172 at hp
    refine lv_lload hx hb d_MO_physical_172 (lv_at hl 0 rfl) ?_
    refine lv_ldc2 (v := 262144) hx hb ho (hT _ mw_1070) d_MO_physical_174 ?_
    refine W.lcmp hx hb d_MO_physical_177 ?_
    refine lv_if_lt (tgt := 200) hx hb d_MO_physical_178 (by decide) (fun q178 => ?_) (fun q178 => ?_)
    · have hp := hp.1 q178
      refine lv_lload hx hb d_MO_physical_200 (lv_at hl 0 rfl) ?_
      exact rt_l hc w d_MO_physical_202 (by rw [← e172, f_MO_physical_172, if_pos q178] <;> rfl)
    · have hp := hp.2 q178
      refine lv_aload_n hx hb d_MO_physical_181 rfl (lv_at hl 1 rfl) ?_
      refine lv_iload_n hx hb d_MO_physical_182 rfl (lv_at hl 2 rfl) ?_
      refine lv_if_eq (tgt := 191) hx hb d_MO_physical_183 (by decide) (fun q183 => ?_) (fun q183 => ?_)
      · have hp := hp.1 q183
        refine lv_bipush (v := 7) hx hb d_MO_physical_191 (by decide) ?_
        exact J193 (7 : Int32) _ _ _ w (lv_sub hl [] rfl) (by rw [← e172, f_MO_physical_172, if_neg q178, if_pos q183]) hp
      · have hp := hp.2 q183
        refine lv_bipush (v := 6) hx hb d_MO_physical_186 (by decide) ?_
        refine lv_goto (tgt := 193) hx hb d_MO_physical_188 (by decide) ?_
        exact J193 (6 : Int32) _ _ _ w (lv_sub hl [] rfl) (by rw [← e172, f_MO_physical_172, if_neg q178, if_neg q183]) hp
  have J150 : ∀ (v150_8 : Int32) (H : Heap) (locs : List Loc) (ls : Array Slot), Wd xCl E A s.heap H locs (mW E ad σ) → lv_has ls 9 [(8, .int v150_8), (0, .ref (ad 0)), (1, .int a1), (3, .int (zb a3))] → zL (f_MO_physical_150 σ a1 a2 a3 v150_8) = Z → P_MO_physical_150 σ a1 a2 a3 v150_8 → W p l e (rmo 2 45) s m ([.ref (ad 0), .int a1, .int (zb a2), .int (zb a3)] : List Value).toArray below meth c H locs 0 0 (MQ below (rQ xCl (mW E ad) E A Z) ([.ref (ad 0), .int a1, .int (zb a2), .int (zb a3)] : List Value).toArray s 0 0 A) (F0 m 150 ls []) := by
    intro v150_8 H locs ls w hl e150 hp
    unfold P_MO_physical_150 at hp
    refine lv_iload hx hb d_MO_physical_150 (lv_at hl 0 rfl) ?_
    refine lv_bipush (v := 6) hx hb d_MO_physical_152 (by decide) ?_
    refine lv_ishr hx hb d_MO_physical_154 ?_
    refine lv_ldc (v := 1048575) hx hb ho (hT _ mw_1068) d_MO_physical_155 ?_
    refine lv_iand hx hb d_MO_physical_157 ?_
    refine lv_i2l hx hb d_MO_physical_158 rfl ?_
    refine lv_ldc2 (v := 4096) hx hb ho (hT _ mw_1069) d_MO_physical_159 ?_
    refine lv_lmul hx hb d_MO_physical_162 ?_
    refine lv_iload_n hx hb d_MO_physical_163 rfl (lv_at hl 2 rfl) ?_
    refine lv_sipush (v := 4095) hx hb d_MO_physical_164 (by decide) ?_
    refine lv_iand hx hb d_MO_physical_167 ?_
    refine lv_i2l hx hb d_MO_physical_168 rfl ?_
    refine lv_ladd hx hb d_MO_physical_169 ?_
    refine lv_lstore (lv' := [(5, .long (((Int32.toInt64 ((v150_8 >>> ((6 : Int32) &&& 31)) &&& (1048575 : Int32))) * (4096 : Int64)) + (Int32.toInt64 (a1 &&& (4095 : Int32))))), (8, .int v150_8), (0, .ref (ad 0)), (1, .int a1), (3, .int (zb a3))]) hx hb d_MO_physical_170 hl (by decide) rfl (fun ls hl => ?_)
    exact J172 (((Int32.toInt64 ((v150_8 >>> ((6 : Int32) &&& 31)) &&& (1048575 : Int32))) * (4096 : Int64)) + (Int32.toInt64 (a1 &&& (4095 : Int32)))) _ _ _ w (lv_sub hl [0, 2, 4] rfl) (by rw [← e150, f_MO_physical_150]) hp
  have J58 : ∀ (v58_4 : Int32) (H : Heap) (locs : List Loc) (ls : Array Slot), Wd xCl E A s.heap H locs (mW E ad σ) → lv_has ls 9 [(4, .int v58_4), (0, .ref (ad 0)), (1, .int a1), (2, .int (zb a2)), (3, .int (zb a3))] → zL (f_MO_physical_58 σ a1 a2 a3 v58_4) = Z → P_MO_physical_58 σ a1 a2 a3 v58_4 → W p l e (rmo 2 45) s m ([.ref (ad 0), .int a1, .int (zb a2), .int (zb a3)] : List Value).toArray below meth c H locs 0 0 (MQ below (rQ xCl (mW E ad) E A Z) ([.ref (ad 0), .int a1, .int (zb a2), .int (zb a3)] : List Value).toArray s 0 0 A) (F0 m 58 ls []) := by
    intro v58_4 H locs ls w hl e58 hp
    unfold P_MO_physical_58 at hp
    refine lv_aload_n hx hb d_MO_physical_58 rfl (lv_at hl 1 rfl) ?_
    refine lv_iload_n hx hb d_MO_physical_59 rfl (lv_at hl 2 rfl) ?_
    refine lv_sipush (v := -8192) hx hb d_MO_physical_60 (by decide) ?_
    refine lv_iand hx hb d_MO_physical_63 ?_
    refine rVI (rest := []) hc w (c_MO_entryOf l E ad σ (a1 &&& (-8192 : Int32))) kv_MO_entryOf mw_1060 0 rfl rfl ⟨Nat.le_of_ble_eq_true rfl, Nat.le_of_ble_eq_true rfl⟩ hl.1 rfl (Nat.le_of_ble_eq_true rfl) ⟨Nat.zero_le _, Nat.zero_le _⟩ d_MO_physical_64 (fun H locs w => ?_)
    refine lv_istore (lv' := [(7, .int (f_MO_entryOf σ (a1 &&& (-8192 : Int32)))), (4, .int v58_4), (0, .ref (ad 0)), (1, .int a1), (2, .int (zb a2)), (3, .int (zb a3))]) hx hb d_MO_physical_67 hl (by decide) rfl (fun ls hl => ?_)
    refine lv_iload hx hb d_MO_physical_69 (lv_at hl 0 rfl) ?_
    refine lv_if_ge (tgt := 91) hx hb d_MO_physical_71 (by decide) (fun q71 => ?_) (fun q71 => ?_)
    · have hp := hp.1 q71
      refine lv_aload_n hx hb d_MO_physical_91 rfl (lv_at hl 2 rfl) ?_
      refine g_MO_halves hc w mw_901 d_MO_physical_92 ?_
      refine lv_iconst (v := 2) hx hb d_MO_physical_95 (by decide) ?_
      refine lv_iload hx hb d_MO_physical_96 (lv_at hl 0 rfl) ?_
      refine lv_imul hx hb d_MO_physical_98 ?_
      refine lv_iload_n hx hb d_MO_physical_99 rfl (lv_at hl 3 rfl) ?_
      refine lv_bipush (v := 12) hx hb d_MO_physical_100 (by decide) ?_
      refine lv_ishr hx hb d_MO_physical_102 ?_
      refine lv_iconst (v := 1) hx hb d_MO_physical_103 (by decide) ?_
      refine lv_iand hx hb d_MO_physical_104 ?_
      refine lv_iadd hx hb d_MO_physical_105 ?_
      obtain ⟨hb106, hp⟩ := hp
      refine a_MO_halves hc w hb106 d_MO_physical_106 ?_
      refine lv_istore (lv' := [(8, .int (m_halves σ (Int32.toNatClampNeg (((2 : Int32) * (f_MO_entryOf σ (a1 &&& (-8192 : Int32)))) + ((a1 >>> ((12 : Int32) &&& 31)) &&& (1 : Int32)))))), (7, .int (f_MO_entryOf σ (a1 &&& (-8192 : Int32)))), (4, .int v58_4), (0, .ref (ad 0)), (1, .int a1), (2, .int (zb a2)), (3, .int (zb a3))]) hx hb d_MO_physical_107 hl (by decide) rfl (fun ls hl => ?_)
      refine lv_iload hx hb d_MO_physical_109 (lv_at hl 0 rfl) ?_
      refine lv_iconst (v := 2) hx hb d_MO_physical_111 (by decide) ?_
      refine lv_iand hx hb d_MO_physical_112 ?_
      refine lv_if_eq (tgt := 127) hx hb d_MO_physical_113 (by decide) (fun q113 => ?_) (fun q113 => ?_)
      · have hp := hp.1 q113
        exact J127 (m_halves σ (Int32.toNatClampNeg (((2 : Int32) * (f_MO_entryOf σ (a1 &&& (-8192 : Int32)))) + ((a1 >>> ((12 : Int32) &&& 31)) &&& (1 : Int32))))) v58_4 _ _ _ w (lv_sub hl [0, 2, 3, 4] rfl) (by rw [← e58, f_MO_physical_58, if_pos q71, if_pos q113]) hp
      · have hp := hp.2 q113
        refine lv_iload_n hx hb d_MO_physical_116 rfl (lv_at hl 5 rfl) ?_
        refine lv_if_eq (tgt := 150) hx hb d_MO_physical_117 (by decide) (fun q117 => ?_) (fun q117 => ?_)
        · have hp := hp.1 q117
          exact J150 (m_halves σ (Int32.toNatClampNeg (((2 : Int32) * (f_MO_entryOf σ (a1 &&& (-8192 : Int32)))) + ((a1 >>> ((12 : Int32) &&& 31)) &&& (1 : Int32))))) _ _ _ w (lv_sub hl [0, 3, 4, 6] rfl) (by rw [← e58, f_MO_physical_58, if_pos q71, if_neg q113, if_pos q117]) hp
        · have hp := hp.2 q117
          refine lv_iload hx hb d_MO_physical_120 (lv_at hl 0 rfl) ?_
          refine lv_iconst (v := 4) hx hb d_MO_physical_122 (by decide) ?_
          refine lv_iand hx hb d_MO_physical_123 ?_
          refine lv_if_ne (tgt := 150) hx hb d_MO_physical_124 (by decide) (fun q124 => ?_) (fun q124 => ?_)
          · have hp := hp.2 q124
            exact J150 (m_halves σ (Int32.toNatClampNeg (((2 : Int32) * (f_MO_entryOf σ (a1 &&& (-8192 : Int32)))) + ((a1 >>> ((12 : Int32) &&& 31)) &&& (1 : Int32))))) _ _ _ w (lv_sub hl [0, 3, 4, 6] rfl) (by rw [← e58, f_MO_physical_58, if_pos q71, if_neg q113, if_neg q117, if_neg q124]) hp
          · have hp := hp.1 q124
            exact J127 (m_halves σ (Int32.toNatClampNeg (((2 : Int32) * (f_MO_entryOf σ (a1 &&& (-8192 : Int32)))) + ((a1 >>> ((12 : Int32) &&& 31)) &&& (1 : Int32))))) v58_4 _ _ _ w (lv_sub hl [0, 2, 3, 4] rfl) (by rw [← e58, f_MO_physical_58, if_pos q71, if_neg q113, if_neg q117, if_pos q124]) hp
    · have hp := hp.2 q71
      refine lv_aload_n hx hb d_MO_physical_74 rfl (lv_at hl 2 rfl) ?_
      refine lv_iload hx hb d_MO_physical_75 (lv_at hl 1 rfl) ?_
      refine lv_iload_n hx hb d_MO_physical_77 rfl (lv_at hl 3 rfl) ?_
      refine cVZ (rest := []) hc w (c_MO_wrong l E ad σ v58_4 a1) kv_MO_wrong mw_1045 0 rfl rfl ⟨Nat.le_of_ble_eq_true rfl, Nat.le_of_ble_eq_true rfl⟩ hl.1 rfl (Nat.le_of_ble_eq_true rfl) ⟨Nat.zero_le _, Nat.zero_le _⟩ d_MO_physical_78 (fun z78 H locs hs78 w => ?_)
      rw [hs78] at hp
      unfold P_MO_physical_c2 at hp
      have e_c2 : zL (f_MO_physical_c2 z78 a1 a2 a3 ) = Z := by rw [← e58, f_MO_physical_58, if_neg q71, hs78]
      refine lv_pop hx hb d_MO_physical_81 rfl ?_
      refine lv_aload_n hx hb d_MO_physical_82 rfl (lv_at hl 2 rfl) ?_
      refine lv_iconst (v := 1) hx hb d_MO_physical_83 (by decide) ?_
      refine p_MO_refills (v := true) hc w mw_908 d_MO_physical_84 (fun σ84 H locs hs84 w => ?_)
      rw [hs84] at hp
      unfold P_MO_physical_c3 at hp
      have e_c3 : zL (f_MO_physical_c3 σ84 a1 a2 a3 ) = Z := by rw [← e_c2, f_MO_physical_c2, hs84]
      refine lv_ldc2 (v := -1) hx hb ho (hT _ mw_1049) d_MO_physical_87 ?_
      exact rt_l hc w d_MO_physical_90 (by rw [← e_c3, f_MO_physical_c3] <;> rfl)
  have J48 : ∀ (v48_5 : Int64) (v48_4 : Int32) (H : Heap) (locs : List Loc) (ls : Array Slot), Wd xCl E A s.heap H locs (mW E ad σ) → lv_has ls 9 [(5, .long v48_5), (4, .int v48_4), (0, .ref (ad 0)), (1, .int a1), (2, .int (zb a2)), (3, .int (zb a3))] → zL (f_MO_physical_48 σ a1 a2 a3 v48_5 v48_4) = Z → P_MO_physical_48 σ a1 a2 a3 v48_5 v48_4 → W p l e (rmo 2 45) s m ([.ref (ad 0), .int a1, .int (zb a2), .int (zb a3)] : List Value).toArray below meth c H locs 0 0 (MQ below (rQ xCl (mW E ad) E A Z) ([.ref (ad 0), .int a1, .int (zb a2), .int (zb a3)] : List Value).toArray s 0 0 A) (F0 m 48 ls []) := by
    intro v48_5 v48_4 H locs ls w hl e48 hp
    unfold P_MO_physical_48 at hp
    refine lv_iload_n hx hb d_MO_physical_48 rfl (lv_at hl 3 rfl) ?_
    refine lv_if_ge (tgt := 58) hx hb d_MO_physical_49 (by decide) (fun q49 => ?_) (fun q49 => ?_)
    · have hp := hp.1 q49
      exact J58 v48_4 _ _ _ w (lv_sub hl [1, 2, 3, 4, 5] rfl) (by rw [← e48, f_MO_physical_48, if_pos q49]) hp
    · have hp := hp.2 q49
      refine lv_iload_n hx hb d_MO_physical_52 rfl (lv_at hl 3 rfl) ?_
      refine lv_ldc (v := -1073741824) hx hb ho (hT _ mw_1059) d_MO_physical_53 ?_
      refine lv_icmp_lt (tgt := 172) hx hb d_MO_physical_55 (by decide) (fun q55 => ?_) (fun q55 => ?_)
      · have hp := hp.1 q55
        exact J172 v48_5 _ _ _ w (lv_sub hl [0, 2, 5] rfl) (by rw [← e48, f_MO_physical_48, if_neg q49, if_pos q55]) hp
      · have hp := hp.2 q55
        exact J58 v48_4 _ _ _ w (lv_sub hl [1, 2, 3, 4, 5] rfl) (by rw [← e48, f_MO_physical_48, if_neg q49, if_neg q55]) hp
  have J39 : ∀ (w39_1 : Int32) (H : Heap) (locs : List Loc) (ls : Array Slot), Wd xCl E A s.heap H locs (mW E ad σ) → lv_has ls 9 [(1, .int a1)] → zL (f_MO_physical_39 σ a1 a2 a3 w39_1) = Z → P_MO_physical_39 σ a1 a2 a3 w39_1 → W p l e (rmo 2 45) s m ([.ref (ad 0), .int a1, .int (zb a2), .int (zb a3)] : List Value).toArray below meth c H locs 0 0 (MQ below (rQ xCl (mW E ad) E A Z) ([.ref (ad 0), .int a1, .int (zb a2), .int (zb a3)] : List Value).toArray s 0 0 A) (F0 m 39 ls [.int w39_1, .ref (ad 0)]) := by
    intro w39_1 H locs ls w hl e39 hp
    unfold P_MO_physical_39 at hp
    refine lv_iload_n hx hb d_MO_physical_39 rfl (lv_at hl 0 rfl) ?_
    refine cVZ (rest := []) hc w (c_MO_wrong l E ad σ w39_1 a1) kv_MO_wrong mw_1045 0 rfl rfl ⟨Nat.le_of_ble_eq_true rfl, Nat.le_of_ble_eq_true rfl⟩ hl.1 rfl (Nat.le_of_ble_eq_true rfl) ⟨Nat.zero_le _, Nat.zero_le _⟩ d_MO_physical_40 (fun z40 H locs hs40 w => ?_)
    rw [hs40] at hp
    unfold P_MO_physical_c1 at hp
    have e_c1 : zL (f_MO_physical_c1 z40 a1 a2 a3 ) = Z := by rw [← e39, f_MO_physical_39, hs40]
    refine lv_pop hx hb d_MO_physical_43 rfl ?_
    refine lv_ldc2 (v := -1) hx hb ho (hT _ mw_1049) d_MO_physical_44 ?_
    exact rt_l hc w d_MO_physical_47 (by rw [← e_c1, f_MO_physical_c1] <;> rfl)
  have J9 : ∀ (w9_0 : Int32) (H : Heap) (locs : List Loc) (ls : Array Slot), Wd xCl E A s.heap H locs (mW E ad σ) → lv_has ls 9 [(0, .ref (ad 0)), (1, .int a1), (2, .int (zb a2)), (3, .int (zb a3))] → zL (f_MO_physical_9 σ a1 a2 a3 w9_0) = Z → P_MO_physical_9 σ a1 a2 a3 w9_0 → W p l e (rmo 2 45) s m ([.ref (ad 0), .int a1, .int (zb a2), .int (zb a3)] : List Value).toArray below meth c H locs 0 0 (MQ below (rQ xCl (mW E ad) E A Z) ([.ref (ad 0), .int a1, .int (zb a2), .int (zb a3)] : List Value).toArray s 0 0 A) (F0 m 9 ls [.int w9_0]) := by
    intro w9_0 H locs ls w hl e9 hp
    unfold P_MO_physical_9 at hp
    refine lv_istore (lv' := [(4, .int w9_0), (0, .ref (ad 0)), (1, .int a1), (2, .int (zb a2)), (3, .int (zb a3))]) hx hb d_MO_physical_9 hl (by decide) rfl (fun ls hl => ?_)
    refine lv_iload_n hx hb d_MO_physical_11 rfl (lv_at hl 2 rfl) ?_
    refine lv_ldc (v := 536870911) hx hb ho (hT _ mw_1054) d_MO_physical_12 ?_
    refine lv_iand hx hb d_MO_physical_14 ?_
    refine lv_i2l hx hb d_MO_physical_15 rfl ?_
    refine lv_lstore (lv' := [(5, .long (Int32.toInt64 (a1 &&& (536870911 : Int32)))), (4, .int w9_0), (0, .ref (ad 0)), (1, .int a1), (2, .int (zb a2)), (3, .int (zb a3))]) hx hb d_MO_physical_16 hl (by decide) rfl (fun ls hl => ?_)
    refine lv_iload_n hx hb d_MO_physical_18 rfl (lv_at hl 3 rfl) ?_
    refine lv_if_ge (tgt := 48) hx hb d_MO_physical_19 (by decide) (fun q19 => ?_) (fun q19 => ?_)
    · have hp := hp.1 q19
      exact J48 (Int32.toInt64 (a1 &&& (536870911 : Int32))) w9_0 _ _ _ w (lv_sub hl [0, 1, 2, 3, 4, 5] rfl) (by rw [← e9, f_MO_physical_9, if_pos q19]) hp
    · have hp := hp.2 q19
      refine lv_aload_n hx hb d_MO_physical_22 rfl (lv_at hl 2 rfl) ?_
      refine rVZ (rest := []) hc w (c_MO_isUser l E ad σ) kv_MO_isUser mw_1055 0 rfl rfl ⟨Nat.le_of_ble_eq_true rfl, Nat.le_of_ble_eq_true rfl⟩ hl.1 rfl (Nat.le_of_ble_eq_true rfl) ⟨Nat.zero_le _, Nat.zero_le _⟩ d_MO_physical_23 (fun H locs w => ?_)
      refine lv_if_eq (tgt := 48) hx hb d_MO_physical_26 (by decide) (fun q26 => ?_) (fun q26 => ?_)
      · have hp := hp.1 q26
        exact J48 (Int32.toInt64 (a1 &&& (536870911 : Int32))) w9_0 _ _ _ w (lv_sub hl [0, 1, 2, 3, 4, 5] rfl) (by rw [← e9, f_MO_physical_9, if_neg q19, if_pos q26]) hp
      · have hp := hp.2 q26
        refine lv_aload_n hx hb d_MO_physical_29 rfl (lv_at hl 2 rfl) ?_
        refine lv_iload_n hx hb d_MO_physical_30 rfl (lv_at hl 4 rfl) ?_
        refine lv_if_eq (tgt := 38) hx hb d_MO_physical_31 (by decide) (fun q31 => ?_) (fun q31 => ?_)
        · have hp := hp.1 q31
          refine lv_iconst (v := 4) hx hb d_MO_physical_38 (by decide) ?_
          exact J39 (4 : Int32) _ _ _ w (lv_sub hl [3] rfl) (by rw [← e9, f_MO_physical_9, if_neg q19, if_neg q26, if_pos q31]) hp
        · have hp := hp.2 q31
          refine lv_iconst (v := 5) hx hb d_MO_physical_34 (by decide) ?_
          refine lv_goto (tgt := 39) hx hb d_MO_physical_35 (by decide) ?_
          exact J39 (5 : Int32) _ _ _ w (lv_sub hl [3] rfl) (by rw [← e9, f_MO_physical_9, if_neg q19, if_neg q26, if_neg q31]) hp
  unfold P_MO_physical at hp
  refine lv_iload_n hx hb d_MO_physical_0 rfl (lv_at hl 2 rfl) ?_
  refine lv_if_eq (tgt := 8) hx hb d_MO_physical_1 (by decide) (fun q1 => ?_) (fun q1 => ?_)
  · have hp := hp.1 q1
    refine lv_iconst (v := 2) hx hb d_MO_physical_8 (by decide) ?_
    exact J9 (2 : Int32) _ _ _ w (lv_sub hl [0, 1, 2, 3] rfl) (by rw [← e0, f_MO_physical, if_pos q1]) hp
  · have hp := hp.2 q1
    refine lv_iconst (v := 3) hx hb d_MO_physical_4 (by decide) ?_
    refine lv_goto (tgt := 9) hx hb d_MO_physical_5 (by decide) ?_
    exact J9 (3 : Int32) _ _ _ w (lv_sub hl [0, 1, 2, 3] rfl) (by rw [← e0, f_MO_physical, if_neg q1]) hp
-- MO_aligned
def f_MO_aligned_c2 (z19 : MS × Bool) (a1 : Int32) (a2 : Int32) (a3 : Bool) (a4 : Bool)  : MS × Int64 := (z19.1, (-1 : Int64))
def f_MO_aligned_18 (σ : MS) (a1 : Int32) (a2 : Int32) (a3 : Bool) (a4 : Bool) (w18_1 : Int32) : MS × Int64 := f_MO_aligned_c2 (f_MO_wrong σ w18_1 a1) a1 a2 a3 a4 
def f_MO_aligned_c1 (z32 : MS × Int64) (a1 : Int32) (a2 : Int32) (a3 : Bool) (a4 : Bool)  : MS × Int64 := (z32.1, z32.2)
def f_MO_aligned (σ : MS) (a1 : Int32) (a2 : Int32) (a3 : Bool) (a4 : Bool) : MS × Int64 := if (a1 &&& (a2 - (1 : Int32))) = 0 then (f_MO_aligned_c1 (f_MO_physical σ a1 a3 a4) a1 a2 a3 a4 ) else (if (zb a3) = 0 then (f_MO_aligned_18 σ a1 a2 a3 a4 (4 : Int32)) else (f_MO_aligned_18 σ a1 a2 a3 a4 (5 : Int32)))
def P_MO_aligned_c2 (z19 : MS × Bool) (a1 : Int32) (a2 : Int32) (a3 : Bool) (a4 : Bool)  : Prop := True
def P_MO_aligned_18 (σ : MS) (a1 : Int32) (a2 : Int32) (a3 : Bool) (a4 : Bool) (w18_1 : Int32) : Prop := P_MO_aligned_c2 (f_MO_wrong σ w18_1 a1) a1 a2 a3 a4 
def P_MO_aligned_c1 (z32 : MS × Int64) (a1 : Int32) (a2 : Int32) (a3 : Bool) (a4 : Bool)  : Prop := True
def P_MO_aligned (σ : MS) (a1 : Int32) (a2 : Int32) (a3 : Bool) (a4 : Bool) : Prop := (((a1 &&& (a2 - (1 : Int32))) = 0) → (P_MO_physical σ a1 a3 a4 ∧ P_MO_aligned_c1 (f_MO_physical σ a1 a3 a4) a1 a2 a3 a4 )) ∧ (¬ ((a1 &&& (a2 - (1 : Int32))) = 0) → ((((zb a3) = 0) → (P_MO_aligned_18 σ a1 a2 a3 a4 (4 : Int32))) ∧ (¬ ((zb a3) = 0) → (P_MO_aligned_18 σ a1 a2 a3 a4 (5 : Int32)))))
theorem d_MO_aligned_0 : decode b_MO_aligned 0 = .ok (.iload_n 1, 1) := by decide +kernel
theorem d_MO_aligned_1 : decode b_MO_aligned 1 = .ok (.iload_n 2, 1) := by decide +kernel
theorem d_MO_aligned_2 : decode b_MO_aligned 2 = .ok (.iconst 1, 1) := by decide +kernel
theorem d_MO_aligned_3 : decode b_MO_aligned 3 = .ok (.isub, 1) := by decide +kernel
theorem d_MO_aligned_4 : decode b_MO_aligned 4 = .ok (.iand, 1) := by decide +kernel
theorem d_MO_aligned_5 : decode b_MO_aligned 5 = .ok (.ifCond .eq 22, 3) := by decide +kernel
theorem d_MO_aligned_8 : decode b_MO_aligned 8 = .ok (.aload_n 0, 1) := by decide +kernel
theorem d_MO_aligned_9 : decode b_MO_aligned 9 = .ok (.iload_n 3, 1) := by decide +kernel
theorem d_MO_aligned_10 : decode b_MO_aligned 10 = .ok (.ifCond .eq 7, 3) := by decide +kernel
theorem d_MO_aligned_13 : decode b_MO_aligned 13 = .ok (.iconst 5, 1) := by decide +kernel
theorem d_MO_aligned_14 : decode b_MO_aligned 14 = .ok (.goto 4, 3) := by decide +kernel
theorem d_MO_aligned_17 : decode b_MO_aligned 17 = .ok (.iconst 4, 1) := by decide +kernel
theorem d_MO_aligned_18 : decode b_MO_aligned 18 = .ok (.iload_n 1, 1) := by decide +kernel
theorem d_MO_aligned_19 : decode b_MO_aligned 19 = .ok (.invokevirtual 114, 3) := by decide +kernel
theorem d_MO_aligned_22 : decode b_MO_aligned 22 = .ok (.pop, 1) := by decide +kernel
theorem d_MO_aligned_23 : decode b_MO_aligned 23 = .ok (.ldc2_w 117, 3) := by decide +kernel
theorem d_MO_aligned_26 : decode b_MO_aligned 26 = .ok (.lreturn, 1) := by decide +kernel
theorem d_MO_aligned_27 : decode b_MO_aligned 27 = .ok (.aload_n 0, 1) := by decide +kernel
theorem d_MO_aligned_28 : decode b_MO_aligned 28 = .ok (.iload_n 1, 1) := by decide +kernel
theorem d_MO_aligned_29 : decode b_MO_aligned 29 = .ok (.iload_n 3, 1) := by decide +kernel
theorem d_MO_aligned_30 : decode b_MO_aligned 30 = .ok (.iload 4, 2) := by decide +kernel
theorem d_MO_aligned_32 : decode b_MO_aligned 32 = .ok (.invokevirtual 128, 3) := by decide +kernel
theorem d_MO_aligned_35 : decode b_MO_aligned 35 = .ok (.lreturn, 1) := by decide +kernel
set_option maxHeartbeats 4000000 in
set_option maxRecDepth 100000 in
theorem c_MO_aligned (l : Launch) (E : Ev) (ad : Nat → Nat) (σ : MS) (a1 : Int32) (a2 : Int32) (a3 : Bool) (a4 : Bool) (hp : P_MO_aligned σ a1 a2 a3 a4) : rC xCl l E (mW E ad) y_MO_aligned b_MO_aligned 5 (Option.some Jvm.ClassFile.FieldType.long) (rmo 3 73) [.ref (ad 0), .int a1, .int a2, .int (zb a3), .int (zb a4)] σ (zL (f_MO_aligned σ a1 a2 a3 a4)) := by
  refine rC.of (by decide) (Nat.le_of_ble_eq_true rfl) ?_
  intro p e s m below meth c A ls hc w hl
  generalize e0 : zL (f_MO_aligned σ a1 a2 a3 a4) = Z
  have hc : Cx xCl E A p s m ([.ref (ad 0), .int a1, .int a2, .int (zb a3), .int (zb a4)] : List Value).toArray meth c b_MO_aligned 5 (Option.some Jvm.ClassFile.FieldType.long) "PageMachineModel" := hc
  have hx := hc.1
  have hb := hc.2.1
  have ho := hc.2.2.2.2.2.1
  have hT := hc.2.2.2.2.2.2.1
  have hl : lv_has ls 5 [(0, .ref (ad 0)), (1, .int a1), (2, .int a2), (3, .int (zb a3)), (4, .int (zb a4))] := hl
  have J18 : ∀ (w18_1 : Int32) (H : Heap) (locs : List Loc) (ls : Array Slot), Wd xCl E A s.heap H locs (mW E ad σ) → lv_has ls 5 [(1, .int a1)] → zL (f_MO_aligned_18 σ a1 a2 a3 a4 w18_1) = Z → P_MO_aligned_18 σ a1 a2 a3 a4 w18_1 → W p l e (rmo 3 73) s m ([.ref (ad 0), .int a1, .int a2, .int (zb a3), .int (zb a4)] : List Value).toArray below meth c H locs 0 0 (MQ below (rQ xCl (mW E ad) E A Z) ([.ref (ad 0), .int a1, .int a2, .int (zb a3), .int (zb a4)] : List Value).toArray s 0 0 A) (F0 m 18 ls [.int w18_1, .ref (ad 0)]) := by
    intro w18_1 H locs ls w hl e18 hp
    unfold P_MO_aligned_18 at hp
    refine lv_iload_n hx hb d_MO_aligned_18 rfl (lv_at hl 0 rfl) ?_
    refine cVZ (rest := []) hc w (c_MO_wrong l E ad σ w18_1 a1) kv_MO_wrong mw_1045 0 rfl rfl ⟨Nat.le_of_ble_eq_true rfl, Nat.le_of_ble_eq_true rfl⟩ hl.1 rfl (Nat.le_of_ble_eq_true rfl) ⟨Nat.zero_le _, Nat.zero_le _⟩ d_MO_aligned_19 (fun z19 H locs hs19 w => ?_)
    rw [hs19] at hp
    unfold P_MO_aligned_c2 at hp
    have e_c2 : zL (f_MO_aligned_c2 z19 a1 a2 a3 a4 ) = Z := by rw [← e18, f_MO_aligned_18, hs19]
    refine lv_pop hx hb d_MO_aligned_22 rfl ?_
    refine lv_ldc2 (v := -1) hx hb ho (hT _ mw_1049) d_MO_aligned_23 ?_
    exact rt_l hc w d_MO_aligned_26 (by rw [← e_c2, f_MO_aligned_c2] <;> rfl)
  unfold P_MO_aligned at hp
  refine lv_iload_n hx hb d_MO_aligned_0 rfl (lv_at hl 1 rfl) ?_
  refine lv_iload_n hx hb d_MO_aligned_1 rfl (lv_at hl 2 rfl) ?_
  refine lv_iconst (v := 1) hx hb d_MO_aligned_2 (by decide) ?_
  refine lv_isub hx hb d_MO_aligned_3 ?_
  refine lv_iand hx hb d_MO_aligned_4 ?_
  refine lv_if_eq (tgt := 27) hx hb d_MO_aligned_5 (by decide) (fun q5 => ?_) (fun q5 => ?_)
  · have hp := hp.1 q5
    refine lv_aload_n hx hb d_MO_aligned_27 rfl (lv_at hl 0 rfl) ?_
    refine lv_iload_n hx hb d_MO_aligned_28 rfl (lv_at hl 1 rfl) ?_
    refine lv_iload_n hx hb d_MO_aligned_29 rfl (lv_at hl 3 rfl) ?_
    refine lv_iload hx hb d_MO_aligned_30 (lv_at hl 4 rfl) ?_
    obtain ⟨hP32, hp⟩ := hp
    refine cVL (rest := []) hc w (c_MO_physical l E ad σ a1 a3 a4 hP32) kv_MO_physical mw_1050 0 rfl rfl ⟨Nat.le_of_ble_eq_true rfl, Nat.le_of_ble_eq_true rfl⟩ hl.1 rfl (Nat.le_of_ble_eq_true rfl) ⟨Nat.zero_le _, Nat.zero_le _⟩ d_MO_aligned_32 (fun z32 H locs hs32 w => ?_)
    rw [hs32] at hp
    unfold P_MO_aligned_c1 at hp
    have e_c1 : zL (f_MO_aligned_c1 z32 a1 a2 a3 a4 ) = Z := by rw [← e0, f_MO_aligned, if_pos q5, hs32]
    exact rt_l hc w d_MO_aligned_35 (by rw [← e_c1, f_MO_aligned_c1] <;> rfl)
  · have hp := hp.2 q5
    refine lv_aload_n hx hb d_MO_aligned_8 rfl (lv_at hl 0 rfl) ?_
    refine lv_iload_n hx hb d_MO_aligned_9 rfl (lv_at hl 3 rfl) ?_
    refine lv_if_eq (tgt := 17) hx hb d_MO_aligned_10 (by decide) (fun q10 => ?_) (fun q10 => ?_)
    · have hp := hp.1 q10
      refine lv_iconst (v := 4) hx hb d_MO_aligned_17 (by decide) ?_
      exact J18 (4 : Int32) _ _ _ w (lv_sub hl [1] rfl) (by rw [← e0, f_MO_aligned, if_neg q5, if_pos q10]) hp
    · have hp := hp.2 q10
      refine lv_iconst (v := 5) hx hb d_MO_aligned_13 (by decide) ?_
      refine lv_goto (tgt := 18) hx hb d_MO_aligned_14 (by decide) ?_
      exact J18 (5 : Int32) _ _ _ w (lv_sub hl [1] rfl) (by rw [← e0, f_MO_aligned, if_neg q5, if_neg q10]) hp
-- MO_bytesAt
def f_MO_bytesAt (σ : MS) (a1 : Int64) (a2 : Int32) : Int32 := if a2 = (4 : Int32) then (m_memory σ (Int32.toNatClampNeg ((Int64.toInt32 a1) / (4 : Int32)))) else (((m_memory σ (Int32.toNatClampNeg ((Int64.toInt32 a1) / (4 : Int32)))) >>> (((8 : Int32) * (((4 : Int32) - a2) - ((Int64.toInt32 a1) - (Int64.toInt32 a1) / (4 : Int32) * (4 : Int32)))) &&& 31)) &&& (((1 : Int32) <<< (((8 : Int32) * a2) &&& 31)) - (1 : Int32)))
def P_MO_bytesAt (σ : MS) (a1 : Int64) (a2 : Int32) : Prop := vp_in ((Int64.toInt32 a1) / (4 : Int32)) 65536 ∧ ((a2 = (4 : Int32)) → (True)) ∧ (¬ (a2 = (4 : Int32)) → (True))
theorem d_MO_bytesAt_0 : decode b_MO_bytesAt 0 = .ok (.aload_n 0, 1) := by decide +kernel
theorem d_MO_bytesAt_1 : decode b_MO_bytesAt 1 = .ok (.getfield 8, 3) := by decide +kernel
theorem d_MO_bytesAt_4 : decode b_MO_bytesAt 4 = .ok (.lload_n 1, 1) := by decide +kernel
theorem d_MO_bytesAt_5 : decode b_MO_bytesAt 5 = .ok (.l2i, 1) := by decide +kernel
theorem d_MO_bytesAt_6 : decode b_MO_bytesAt 6 = .ok (.iconst 4, 1) := by decide +kernel
theorem d_MO_bytesAt_7 : decode b_MO_bytesAt 7 = .ok (.idiv, 1) := by decide +kernel
theorem d_MO_bytesAt_8 : decode b_MO_bytesAt 8 = .ok (.iaload, 1) := by decide +kernel
theorem d_MO_bytesAt_9 : decode b_MO_bytesAt 9 = .ok (.istore 4, 2) := by decide +kernel
theorem d_MO_bytesAt_11 : decode b_MO_bytesAt 11 = .ok (.bipush 8, 2) := by decide +kernel
theorem d_MO_bytesAt_13 : decode b_MO_bytesAt 13 = .ok (.iconst 4, 1) := by decide +kernel
theorem d_MO_bytesAt_14 : decode b_MO_bytesAt 14 = .ok (.iload_n 3, 1) := by decide +kernel
theorem d_MO_bytesAt_15 : decode b_MO_bytesAt 15 = .ok (.isub, 1) := by decide +kernel
theorem d_MO_bytesAt_16 : decode b_MO_bytesAt 16 = .ok (.lload_n 1, 1) := by decide +kernel
theorem d_MO_bytesAt_17 : decode b_MO_bytesAt 17 = .ok (.l2i, 1) := by decide +kernel
theorem d_MO_bytesAt_18 : decode b_MO_bytesAt 18 = .ok (.iconst 4, 1) := by decide +kernel
theorem d_MO_bytesAt_19 : decode b_MO_bytesAt 19 = .ok (.irem, 1) := by decide +kernel
theorem d_MO_bytesAt_20 : decode b_MO_bytesAt 20 = .ok (.isub, 1) := by decide +kernel
theorem d_MO_bytesAt_21 : decode b_MO_bytesAt 21 = .ok (.imul, 1) := by decide +kernel
theorem d_MO_bytesAt_22 : decode b_MO_bytesAt 22 = .ok (.istore 5, 2) := by decide +kernel
theorem d_MO_bytesAt_24 : decode b_MO_bytesAt 24 = .ok (.iload_n 3, 1) := by decide +kernel
theorem d_MO_bytesAt_25 : decode b_MO_bytesAt 25 = .ok (.iconst 4, 1) := by decide +kernel
theorem d_MO_bytesAt_26 : decode b_MO_bytesAt 26 = .ok (.if_icmp .ne 8, 3) := by decide +kernel
theorem d_MO_bytesAt_29 : decode b_MO_bytesAt 29 = .ok (.iload 4, 2) := by decide +kernel
theorem d_MO_bytesAt_31 : decode b_MO_bytesAt 31 = .ok (.goto 17, 3) := by decide +kernel
theorem d_MO_bytesAt_34 : decode b_MO_bytesAt 34 = .ok (.iload 4, 2) := by decide +kernel
theorem d_MO_bytesAt_36 : decode b_MO_bytesAt 36 = .ok (.iload 5, 2) := by decide +kernel
theorem d_MO_bytesAt_38 : decode b_MO_bytesAt 38 = .ok (.ishr, 1) := by decide +kernel
theorem d_MO_bytesAt_39 : decode b_MO_bytesAt 39 = .ok (.iconst 1, 1) := by decide +kernel
theorem d_MO_bytesAt_40 : decode b_MO_bytesAt 40 = .ok (.bipush 8, 2) := by decide +kernel
theorem d_MO_bytesAt_42 : decode b_MO_bytesAt 42 = .ok (.iload_n 3, 1) := by decide +kernel
theorem d_MO_bytesAt_43 : decode b_MO_bytesAt 43 = .ok (.imul, 1) := by decide +kernel
theorem d_MO_bytesAt_44 : decode b_MO_bytesAt 44 = .ok (.ishl, 1) := by decide +kernel
theorem d_MO_bytesAt_45 : decode b_MO_bytesAt 45 = .ok (.iconst 1, 1) := by decide +kernel
theorem d_MO_bytesAt_46 : decode b_MO_bytesAt 46 = .ok (.isub, 1) := by decide +kernel
theorem d_MO_bytesAt_47 : decode b_MO_bytesAt 47 = .ok (.iand, 1) := by decide +kernel
theorem d_MO_bytesAt_48 : decode b_MO_bytesAt 48 = .ok (.ireturn, 1) := by decide +kernel
set_option maxHeartbeats 4000000 in
set_option maxRecDepth 100000 in
theorem c_MO_bytesAt (l : Launch) (E : Ev) (ad : Nat → Nat) (σ : MS) (a1 : Int64) (a2 : Int32) (hp : P_MO_bytesAt σ a1 a2) : rC xCl l E (mW E ad) y_MO_bytesAt b_MO_bytesAt 6 (Option.some Jvm.ClassFile.FieldType.int) (rmo 0 0) [.ref (ad 0), .long a1, .int a2] σ ((σ, some (Value.int (f_MO_bytesAt σ a1 a2)))) := by
  refine rC.of (by decide) (Nat.le_of_ble_eq_true rfl) ?_
  intro p e s m below meth c A ls hc w hl
  generalize e0 : (σ, some (Value.int (f_MO_bytesAt σ a1 a2))) = Z
  have hc : Cx xCl E A p s m ([.ref (ad 0), .long a1, .int a2] : List Value).toArray meth c b_MO_bytesAt 6 (Option.some Jvm.ClassFile.FieldType.int) "PageMachineModel" := hc
  have hx := hc.1
  have hb := hc.2.1
  have ho := hc.2.2.2.2.2.1
  have hT := hc.2.2.2.2.2.2.1
  have hl : lv_has ls 6 [(0, .ref (ad 0)), (1, .long a1), (3, .int a2)] := hl
  unfold P_MO_bytesAt at hp
  refine lv_aload_n hx hb d_MO_bytesAt_0 rfl (lv_at hl 0 rfl) ?_
  refine g_MO_memory hc w mw_887 d_MO_bytesAt_1 ?_
  refine lv_lload_n hx hb d_MO_bytesAt_4 rfl (lv_at hl 1 rfl) ?_
  refine lv_l2i hx hb d_MO_bytesAt_5 rfl ?_
  refine lv_iconst (v := 4) hx hb d_MO_bytesAt_6 (by decide) ?_
  refine lv_idiv hx hb d_MO_bytesAt_7 (by decide) ?_
  obtain ⟨hb8, hp⟩ := hp
  refine a_MO_memory hc w hb8 d_MO_bytesAt_8 ?_
  refine lv_istore (lv' := [(4, .int (m_memory σ (Int32.toNatClampNeg ((Int64.toInt32 a1) / (4 : Int32))))), (0, .ref (ad 0)), (1, .long a1), (3, .int a2)]) hx hb d_MO_bytesAt_9 hl (by decide) rfl (fun ls hl => ?_)
  refine lv_bipush (v := 8) hx hb d_MO_bytesAt_11 (by decide) ?_
  refine lv_iconst (v := 4) hx hb d_MO_bytesAt_13 (by decide) ?_
  refine lv_iload_n hx hb d_MO_bytesAt_14 rfl (lv_at hl 3 rfl) ?_
  refine lv_isub hx hb d_MO_bytesAt_15 ?_
  refine lv_lload_n hx hb d_MO_bytesAt_16 rfl (lv_at hl 2 rfl) ?_
  refine lv_l2i hx hb d_MO_bytesAt_17 rfl ?_
  refine lv_iconst (v := 4) hx hb d_MO_bytesAt_18 (by decide) ?_
  refine lv_irem hx hb d_MO_bytesAt_19 (by decide) ?_
  refine lv_isub hx hb d_MO_bytesAt_20 ?_
  refine lv_imul hx hb d_MO_bytesAt_21 ?_
  refine lv_istore (lv' := [(5, .int ((8 : Int32) * (((4 : Int32) - a2) - ((Int64.toInt32 a1) - (Int64.toInt32 a1) / (4 : Int32) * (4 : Int32))))), (4, .int (m_memory σ (Int32.toNatClampNeg ((Int64.toInt32 a1) / (4 : Int32))))), (0, .ref (ad 0)), (1, .long a1), (3, .int a2)]) hx hb d_MO_bytesAt_22 hl (by decide) rfl (fun ls hl => ?_)
  refine lv_iload_n hx hb d_MO_bytesAt_24 rfl (lv_at hl 4 rfl) ?_
  refine lv_iconst (v := 4) hx hb d_MO_bytesAt_25 (by decide) ?_
  refine lv_icmp_ne (tgt := 34) hx hb d_MO_bytesAt_26 (by decide) (fun q26 => ?_) (fun q26 => ?_)
  · have hp := hp.2 q26
    refine lv_iload hx hb d_MO_bytesAt_34 (lv_at hl 1 rfl) ?_
    refine lv_iload hx hb d_MO_bytesAt_36 (lv_at hl 0 rfl) ?_
    refine lv_ishr hx hb d_MO_bytesAt_38 ?_
    refine lv_iconst (v := 1) hx hb d_MO_bytesAt_39 (by decide) ?_
    refine lv_bipush (v := 8) hx hb d_MO_bytesAt_40 (by decide) ?_
    refine lv_iload_n hx hb d_MO_bytesAt_42 rfl (lv_at hl 4 rfl) ?_
    refine lv_imul hx hb d_MO_bytesAt_43 ?_
    refine lv_ishl hx hb d_MO_bytesAt_44 ?_
    refine lv_iconst (v := 1) hx hb d_MO_bytesAt_45 (by decide) ?_
    refine lv_isub hx hb d_MO_bytesAt_46 ?_
    refine lv_iand hx hb d_MO_bytesAt_47 ?_
    exact rt_i hc w d_MO_bytesAt_48 (by rw [← e0, f_MO_bytesAt, if_neg q26] <;> rfl)
  · have hp := hp.1 q26
    refine lv_iload hx hb d_MO_bytesAt_29 (lv_at hl 1 rfl) ?_
    refine lv_goto (tgt := 48) hx hb d_MO_bytesAt_31 (by decide) ?_
    exact rt_i hc w d_MO_bytesAt_48 (by rw [← e0, f_MO_bytesAt, if_pos q26] <;> rfl)
-- MO_store
def f_MO_store_c1 (σ68 : MS) (a1 : Int64) (a2 : Int32) (a3 : Int32)  : MS := σ68
def f_MO_store_39 (σ : MS) (a1 : Int64) (a2 : Int32) (a3 : Int32) (v39_6 : Int32) (v39_5 : Int32) (w39_0 : Int32) : MS := f_MO_store_c1 (ms_memory σ (upd (m_memory σ) (Int32.toNatClampNeg v39_5) (((m_memory σ (Int32.toNatClampNeg v39_5)) &&& (w39_0 ^^^ (-1 : Int32))) ||| ((a3 <<< (v39_6 &&& 31)) &&& w39_0)))) a1 a2 a3 
def f_MO_store (σ : MS) (a1 : Int64) (a2 : Int32) (a3 : Int32) : MS := if a2 = (4 : Int32) then (f_MO_store_39 σ a1 a2 a3 ((8 : Int32) * (((4 : Int32) - a2) - ((Int64.toInt32 a1) - (Int64.toInt32 a1) / (4 : Int32) * (4 : Int32)))) ((Int64.toInt32 a1) / (4 : Int32)) (-1 : Int32)) else (f_MO_store_39 σ a1 a2 a3 ((8 : Int32) * (((4 : Int32) - a2) - ((Int64.toInt32 a1) - (Int64.toInt32 a1) / (4 : Int32) * (4 : Int32)))) ((Int64.toInt32 a1) / (4 : Int32)) ((((1 : Int32) <<< (((8 : Int32) * a2) &&& 31)) - (1 : Int32)) <<< (((8 : Int32) * (((4 : Int32) - a2) - ((Int64.toInt32 a1) - (Int64.toInt32 a1) / (4 : Int32) * (4 : Int32)))) &&& 31)))
def P_MO_store_c1 (σ68 : MS) (a1 : Int64) (a2 : Int32) (a3 : Int32)  : Prop := True
def P_MO_store_39 (σ : MS) (a1 : Int64) (a2 : Int32) (a3 : Int32) (v39_6 : Int32) (v39_5 : Int32) (w39_0 : Int32) : Prop := vp_in v39_5 65536 ∧ vp_in v39_5 65536 ∧ P_MO_store_c1 (ms_memory σ (upd (m_memory σ) (Int32.toNatClampNeg v39_5) (((m_memory σ (Int32.toNatClampNeg v39_5)) &&& (w39_0 ^^^ (-1 : Int32))) ||| ((a3 <<< (v39_6 &&& 31)) &&& w39_0)))) a1 a2 a3 
def P_MO_store (σ : MS) (a1 : Int64) (a2 : Int32) (a3 : Int32) : Prop := ((a2 = (4 : Int32)) → (P_MO_store_39 σ a1 a2 a3 ((8 : Int32) * (((4 : Int32) - a2) - ((Int64.toInt32 a1) - (Int64.toInt32 a1) / (4 : Int32) * (4 : Int32)))) ((Int64.toInt32 a1) / (4 : Int32)) (-1 : Int32))) ∧ (¬ (a2 = (4 : Int32)) → (P_MO_store_39 σ a1 a2 a3 ((8 : Int32) * (((4 : Int32) - a2) - ((Int64.toInt32 a1) - (Int64.toInt32 a1) / (4 : Int32) * (4 : Int32)))) ((Int64.toInt32 a1) / (4 : Int32)) ((((1 : Int32) <<< (((8 : Int32) * a2) &&& 31)) - (1 : Int32)) <<< (((8 : Int32) * (((4 : Int32) - a2) - ((Int64.toInt32 a1) - (Int64.toInt32 a1) / (4 : Int32) * (4 : Int32)))) &&& 31))))
theorem d_MO_store_0 : decode b_MO_store 0 = .ok (.lload_n 1, 1) := by decide +kernel
theorem d_MO_store_1 : decode b_MO_store 1 = .ok (.l2i, 1) := by decide +kernel
theorem d_MO_store_2 : decode b_MO_store 2 = .ok (.iconst 4, 1) := by decide +kernel
theorem d_MO_store_3 : decode b_MO_store 3 = .ok (.idiv, 1) := by decide +kernel
theorem d_MO_store_4 : decode b_MO_store 4 = .ok (.istore 5, 2) := by decide +kernel
theorem d_MO_store_6 : decode b_MO_store 6 = .ok (.bipush 8, 2) := by decide +kernel
theorem d_MO_store_8 : decode b_MO_store 8 = .ok (.iconst 4, 1) := by decide +kernel
theorem d_MO_store_9 : decode b_MO_store 9 = .ok (.iload_n 3, 1) := by decide +kernel
theorem d_MO_store_10 : decode b_MO_store 10 = .ok (.isub, 1) := by decide +kernel
theorem d_MO_store_11 : decode b_MO_store 11 = .ok (.lload_n 1, 1) := by decide +kernel
theorem d_MO_store_12 : decode b_MO_store 12 = .ok (.l2i, 1) := by decide +kernel
theorem d_MO_store_13 : decode b_MO_store 13 = .ok (.iconst 4, 1) := by decide +kernel
theorem d_MO_store_14 : decode b_MO_store 14 = .ok (.irem, 1) := by decide +kernel
theorem d_MO_store_15 : decode b_MO_store 15 = .ok (.isub, 1) := by decide +kernel
theorem d_MO_store_16 : decode b_MO_store 16 = .ok (.imul, 1) := by decide +kernel
theorem d_MO_store_17 : decode b_MO_store 17 = .ok (.istore 6, 2) := by decide +kernel
theorem d_MO_store_19 : decode b_MO_store 19 = .ok (.iload_n 3, 1) := by decide +kernel
theorem d_MO_store_20 : decode b_MO_store 20 = .ok (.iconst 4, 1) := by decide +kernel
theorem d_MO_store_21 : decode b_MO_store 21 = .ok (.if_icmp .ne 7, 3) := by decide +kernel
theorem d_MO_store_24 : decode b_MO_store 24 = .ok (.iconst (-1), 1) := by decide +kernel
theorem d_MO_store_25 : decode b_MO_store 25 = .ok (.goto 14, 3) := by decide +kernel
theorem d_MO_store_28 : decode b_MO_store 28 = .ok (.iconst 1, 1) := by decide +kernel
theorem d_MO_store_29 : decode b_MO_store 29 = .ok (.bipush 8, 2) := by decide +kernel
theorem d_MO_store_31 : decode b_MO_store 31 = .ok (.iload_n 3, 1) := by decide +kernel
theorem d_MO_store_32 : decode b_MO_store 32 = .ok (.imul, 1) := by decide +kernel
theorem d_MO_store_33 : decode b_MO_store 33 = .ok (.ishl, 1) := by decide +kernel
theorem d_MO_store_34 : decode b_MO_store 34 = .ok (.iconst 1, 1) := by decide +kernel
theorem d_MO_store_35 : decode b_MO_store 35 = .ok (.isub, 1) := by decide +kernel
theorem d_MO_store_36 : decode b_MO_store 36 = .ok (.iload 6, 2) := by decide +kernel
theorem d_MO_store_38 : decode b_MO_store 38 = .ok (.ishl, 1) := by decide +kernel
theorem d_MO_store_39 : decode b_MO_store 39 = .ok (.istore 7, 2) := by decide +kernel
theorem d_MO_store_41 : decode b_MO_store 41 = .ok (.aload_n 0, 1) := by decide +kernel
theorem d_MO_store_42 : decode b_MO_store 42 = .ok (.getfield 8, 3) := by decide +kernel
theorem d_MO_store_45 : decode b_MO_store 45 = .ok (.iload 5, 2) := by decide +kernel
theorem d_MO_store_47 : decode b_MO_store 47 = .ok (.aload_n 0, 1) := by decide +kernel
theorem d_MO_store_48 : decode b_MO_store 48 = .ok (.getfield 8, 3) := by decide +kernel
theorem d_MO_store_51 : decode b_MO_store 51 = .ok (.iload 5, 2) := by decide +kernel
theorem d_MO_store_53 : decode b_MO_store 53 = .ok (.iaload, 1) := by decide +kernel
theorem d_MO_store_54 : decode b_MO_store 54 = .ok (.iload 7, 2) := by decide +kernel
theorem d_MO_store_56 : decode b_MO_store 56 = .ok (.iconst (-1), 1) := by decide +kernel
theorem d_MO_store_57 : decode b_MO_store 57 = .ok (.ixor, 1) := by decide +kernel
theorem d_MO_store_58 : decode b_MO_store 58 = .ok (.iand, 1) := by decide +kernel
theorem d_MO_store_59 : decode b_MO_store 59 = .ok (.iload 4, 2) := by decide +kernel
theorem d_MO_store_61 : decode b_MO_store 61 = .ok (.iload 6, 2) := by decide +kernel
theorem d_MO_store_63 : decode b_MO_store 63 = .ok (.ishl, 1) := by decide +kernel
theorem d_MO_store_64 : decode b_MO_store 64 = .ok (.iload 7, 2) := by decide +kernel
theorem d_MO_store_66 : decode b_MO_store 66 = .ok (.iand, 1) := by decide +kernel
theorem d_MO_store_67 : decode b_MO_store 67 = .ok (.ior, 1) := by decide +kernel
theorem d_MO_store_68 : decode b_MO_store 68 = .ok (.iastore, 1) := by decide +kernel
theorem d_MO_store_69 : decode b_MO_store 69 = .ok (.return_, 1) := by decide +kernel
set_option maxHeartbeats 4000000 in
set_option maxRecDepth 100000 in
theorem c_MO_store (l : Launch) (E : Ev) (ad : Nat → Nat) (σ : MS) (a1 : Int64) (a2 : Int32) (a3 : Int32) (hp : P_MO_store σ a1 a2 a3) : rC xCl l E (mW E ad) y_MO_store b_MO_store 8 (Option.none : Option Jvm.ClassFile.FieldType) (rmo 0 0) [.ref (ad 0), .long a1, .int a2, .int a3] σ (zV (f_MO_store σ a1 a2 a3)) := by
  refine rC.of (by decide) (Nat.le_of_ble_eq_true rfl) ?_
  intro p e s m below meth c A ls hc w hl
  generalize e0 : zV (f_MO_store σ a1 a2 a3) = Z
  have hc : Cx xCl E A p s m ([.ref (ad 0), .long a1, .int a2, .int a3] : List Value).toArray meth c b_MO_store 8 (Option.none : Option Jvm.ClassFile.FieldType) "PageMachineModel" := hc
  have hx := hc.1
  have hb := hc.2.1
  have ho := hc.2.2.2.2.2.1
  have hT := hc.2.2.2.2.2.2.1
  have hl : lv_has ls 8 [(0, .ref (ad 0)), (1, .long a1), (3, .int a2), (4, .int a3)] := hl
  have J39 : ∀ (v39_6 : Int32) (v39_5 : Int32) (w39_0 : Int32) (H : Heap) (locs : List Loc) (ls : Array Slot), Wd xCl E A s.heap H locs (mW E ad σ) → lv_has ls 8 [(6, .int v39_6), (5, .int v39_5), (0, .ref (ad 0)), (4, .int a3)] → zV (f_MO_store_39 σ a1 a2 a3 v39_6 v39_5 w39_0) = Z → P_MO_store_39 σ a1 a2 a3 v39_6 v39_5 w39_0 → W p l e (rmo 0 0) s m ([.ref (ad 0), .long a1, .int a2, .int a3] : List Value).toArray below meth c H locs 0 0 (MQ below (rQ xCl (mW E ad) E A Z) ([.ref (ad 0), .long a1, .int a2, .int a3] : List Value).toArray s 0 0 A) (F0 m 39 ls [.int w39_0]) := by
    intro v39_6 v39_5 w39_0 H locs ls w hl e39 hp
    unfold P_MO_store_39 at hp
    refine lv_istore (lv' := [(7, .int w39_0), (6, .int v39_6), (5, .int v39_5), (0, .ref (ad 0)), (4, .int a3)]) hx hb d_MO_store_39 hl (by decide) rfl (fun ls hl => ?_)
    refine lv_aload_n hx hb d_MO_store_41 rfl (lv_at hl 3 rfl) ?_
    refine g_MO_memory hc w mw_887 d_MO_store_42 ?_
    refine lv_iload hx hb d_MO_store_45 (lv_at hl 2 rfl) ?_
    refine lv_aload_n hx hb d_MO_store_47 rfl (lv_at hl 3 rfl) ?_
    refine g_MO_memory hc w mw_887 d_MO_store_48 ?_
    refine lv_iload hx hb d_MO_store_51 (lv_at hl 2 rfl) ?_
    obtain ⟨hb53, hp⟩ := hp
    refine a_MO_memory hc w hb53 d_MO_store_53 ?_
    refine lv_iload hx hb d_MO_store_54 (lv_at hl 0 rfl) ?_
    refine lv_iconst (v := -1) hx hb d_MO_store_56 (by decide) ?_
    refine lv_ixor hx hb d_MO_store_57 ?_
    refine lv_iand hx hb d_MO_store_58 ?_
    refine lv_iload hx hb d_MO_store_59 (lv_at hl 4 rfl) ?_
    refine lv_iload hx hb d_MO_store_61 (lv_at hl 1 rfl) ?_
    refine lv_ishl hx hb d_MO_store_63 ?_
    refine lv_iload hx hb d_MO_store_64 (lv_at hl 0 rfl) ?_
    refine lv_iand hx hb d_MO_store_66 ?_
    refine lv_ior hx hb d_MO_store_67 ?_
    obtain ⟨hb68, hp⟩ := hp
    refine s_MO_memory hc w hb68 d_MO_store_68 (fun σ68 H locs hs68 w => ?_)
    rw [hs68] at hp
    unfold P_MO_store_c1 at hp
    have e_c1 : zV (f_MO_store_c1 σ68 a1 a2 a3 ) = Z := by rw [← e39, f_MO_store_39, hs68]
    exact rt_v hc w d_MO_store_69 (by rw [← e_c1, f_MO_store_c1] <;> rfl)
  unfold P_MO_store at hp
  refine lv_lload_n hx hb d_MO_store_0 rfl (lv_at hl 1 rfl) ?_
  refine lv_l2i hx hb d_MO_store_1 rfl ?_
  refine lv_iconst (v := 4) hx hb d_MO_store_2 (by decide) ?_
  refine lv_idiv hx hb d_MO_store_3 (by decide) ?_
  refine lv_istore (lv' := [(5, .int ((Int64.toInt32 a1) / (4 : Int32))), (0, .ref (ad 0)), (1, .long a1), (3, .int a2), (4, .int a3)]) hx hb d_MO_store_4 hl (by decide) rfl (fun ls hl => ?_)
  refine lv_bipush (v := 8) hx hb d_MO_store_6 (by decide) ?_
  refine lv_iconst (v := 4) hx hb d_MO_store_8 (by decide) ?_
  refine lv_iload_n hx hb d_MO_store_9 rfl (lv_at hl 3 rfl) ?_
  refine lv_isub hx hb d_MO_store_10 ?_
  refine lv_lload_n hx hb d_MO_store_11 rfl (lv_at hl 2 rfl) ?_
  refine lv_l2i hx hb d_MO_store_12 rfl ?_
  refine lv_iconst (v := 4) hx hb d_MO_store_13 (by decide) ?_
  refine lv_irem hx hb d_MO_store_14 (by decide) ?_
  refine lv_isub hx hb d_MO_store_15 ?_
  refine lv_imul hx hb d_MO_store_16 ?_
  refine lv_istore (lv' := [(6, .int ((8 : Int32) * (((4 : Int32) - a2) - ((Int64.toInt32 a1) - (Int64.toInt32 a1) / (4 : Int32) * (4 : Int32))))), (5, .int ((Int64.toInt32 a1) / (4 : Int32))), (0, .ref (ad 0)), (1, .long a1), (3, .int a2), (4, .int a3)]) hx hb d_MO_store_17 hl (by decide) rfl (fun ls hl => ?_)
  refine lv_iload_n hx hb d_MO_store_19 rfl (lv_at hl 4 rfl) ?_
  refine lv_iconst (v := 4) hx hb d_MO_store_20 (by decide) ?_
  refine lv_icmp_ne (tgt := 28) hx hb d_MO_store_21 (by decide) (fun q21 => ?_) (fun q21 => ?_)
  · have hp := hp.2 q21
    refine lv_iconst (v := 1) hx hb d_MO_store_28 (by decide) ?_
    refine lv_bipush (v := 8) hx hb d_MO_store_29 (by decide) ?_
    refine lv_iload_n hx hb d_MO_store_31 rfl (lv_at hl 4 rfl) ?_
    refine lv_imul hx hb d_MO_store_32 ?_
    refine lv_ishl hx hb d_MO_store_33 ?_
    refine lv_iconst (v := 1) hx hb d_MO_store_34 (by decide) ?_
    refine lv_isub hx hb d_MO_store_35 ?_
    refine lv_iload hx hb d_MO_store_36 (lv_at hl 0 rfl) ?_
    refine lv_ishl hx hb d_MO_store_38 ?_
    exact J39 ((8 : Int32) * (((4 : Int32) - a2) - ((Int64.toInt32 a1) - (Int64.toInt32 a1) / (4 : Int32) * (4 : Int32)))) ((Int64.toInt32 a1) / (4 : Int32)) ((((1 : Int32) <<< (((8 : Int32) * a2) &&& 31)) - (1 : Int32)) <<< (((8 : Int32) * (((4 : Int32) - a2) - ((Int64.toInt32 a1) - (Int64.toInt32 a1) / (4 : Int32) * (4 : Int32)))) &&& 31)) _ _ _ w (lv_sub hl [0, 1, 2, 5] rfl) (by rw [← e0, f_MO_store, if_neg q21]) hp
  · have hp := hp.1 q21
    refine lv_iconst (v := -1) hx hb d_MO_store_24 (by decide) ?_
    refine lv_goto (tgt := 39) hx hb d_MO_store_25 (by decide) ?_
    exact J39 ((8 : Int32) * (((4 : Int32) - a2) - ((Int64.toInt32 a1) - (Int64.toInt32 a1) / (4 : Int32) * (4 : Int32)))) ((Int64.toInt32 a1) / (4 : Int32)) (-1 : Int32) _ _ _ w (lv_sub hl [0, 1, 2, 5] rfl) (by rw [← e0, f_MO_store, if_pos q21]) hp
-- MO_enter
def f_MO_enter_c10 (σ255 : MS)   : MS := σ255
def f_MO_enter_c9 (σ242 : MS)   : MS := f_MO_enter_c10 (ms_faults σ242 (upd (m_faults σ242) (Int32.toNatClampNeg (m_fault σ242)) ((m_faults σ242 (Int32.toNatClampNeg (m_fault σ242))) + (1 : Int32))))  
def f_MO_enter_c8 (σ224 : MS)   : MS := f_MO_enter_c9 (ms_sys σ224 (upd (m_sys σ224) (Int32.toNatClampNeg (12 : Int32)) ((m_sys σ224 (Int32.toNatClampNeg (12 : Int32))) ||| (2 : Int32))))  
def f_MO_enter_c7 (σ219 : MS)   : MS := f_MO_enter_c8 (ms_slot σ219 false)  
def f_MO_enter_219 (σ219 : MS) (w219_1 : Int32) : MS := f_MO_enter_c7 (ms_pc σ219 w219_1)  
def f_MO_enter_217 (σ217 : MS) : MS := f_MO_enter_219 σ217 (-2147483264 : Int32)
def f_MO_enter_200 (σ200 : MS) (v200_1 : Bool) : MS := if (zb (m_refills σ200)) = 0 then (f_MO_enter_217 σ200) else (if (zb v200_1) = 0 then (f_MO_enter_217 σ200) else (f_MO_enter_219 σ200 (-2147483648 : Int32)))
def f_MO_enter_c6 (σ199 : MS)  (v119_1 : Bool) : MS := f_MO_enter_200 σ199 v119_1
def f_MO_enter_c5 (σ172 : MS)  (v119_1 : Bool) : MS := f_MO_enter_c6 (ms_sys σ172 (upd (m_sys σ172) (Int32.toNatClampNeg (10 : Int32)) (((m_sys σ172 (Int32.toNatClampNeg (10 : Int32))) &&& (255 : Int32)) ||| ((m_faultAt σ172) &&& (-8192 : Int32)))))  v119_1
def f_MO_enter_c4 (σ138 : MS)  (v119_1 : Bool) : MS := if (4 : Int32) ≤ (m_fault σ138) then (f_MO_enter_200 σ138 v119_1) else (f_MO_enter_c5 (ms_sys σ138 (upd (m_sys σ138) (Int32.toNatClampNeg (4 : Int32)) (((m_sys σ138 (Int32.toNatClampNeg (4 : Int32))) &&& (-8388608 : Int32)) ||| (((Int32.toUInt32 (m_faultAt σ138) >>> (Int32.toUInt32 (9 : Int32) &&& Int32.toUInt32 31)).toInt32) &&& (8388592 : Int32)))))  v119_1)
def f_MO_enter_c3 (σ120 : MS)  (v119_1 : Bool) : MS := if (zb (m_hasAddress σ120)) = 0 then (f_MO_enter_200 σ120 v119_1) else (f_MO_enter_c4 (ms_sys σ120 (upd (m_sys σ120) (Int32.toNatClampNeg (8 : Int32)) (m_faultAt σ120)))  v119_1)
def f_MO_enter_119 (σ119 : MS) (v119_1 : Bool) (w119_2 : Int32) (w119_3 : Int32) : MS := f_MO_enter_c3 (ms_sys σ119 (upd (m_sys σ119) (Int32.toNatClampNeg (13 : Int32)) (w119_2 ||| w119_3)))  v119_1
def f_MO_enter_76 (σ76 : MS) (v76_1 : Bool) : MS := if (m_fault σ76) = (11 : Int32) then (f_MO_enter_119 σ76 v76_1 (((m_sys σ76 (Int32.toNatClampNeg (13 : Int32))) &&& (-805306493 : Int32)) ||| ((m_fault σ76) <<< ((2 : Int32) &&& 31))) ((m_unit σ76) <<< ((28 : Int32) &&& 31))) else (f_MO_enter_119 σ76 v76_1 (((m_sys σ76 (Int32.toNatClampNeg (13 : Int32))) &&& (-805306493 : Int32)) ||| ((m_fault σ76) <<< ((2 : Int32) &&& 31))) (0 : Int32))
def f_MO_enter_c2 (σ75 : MS)  (v74_1 : Bool) : MS := f_MO_enter_76 σ75 v74_1
def f_MO_enter_74 (σ74 : MS) (v74_1 : Bool) (w74_2 : Int32) (w74_3 : Int32) : MS := f_MO_enter_c2 (ms_sys σ74 (upd (m_sys σ74) (Int32.toNatClampNeg (13 : Int32)) (w74_2 ||| w74_3)))  v74_1
def f_MO_enter_c1 (σ44 : MS)  (v44_1 : Bool) : MS := if (zb (m_slot σ44)) = 0 then (f_MO_enter_74 σ44 v44_1 ((m_sys σ44 (Int32.toNatClampNeg (13 : Int32))) &&& (2147483647 : Int32)) (0 : Int32)) else (f_MO_enter_74 σ44 v44_1 ((m_sys σ44 (Int32.toNatClampNeg (13 : Int32))) &&& (2147483647 : Int32)) (-2147483648 : Int32))
def f_MO_enter_44 (σ : MS) (v44_1 : Bool) (w44_2 : Int32) : MS := f_MO_enter_c1 (ms_sys σ (upd (m_sys σ) (Int32.toNatClampNeg (14 : Int32)) w44_2))  v44_1
def f_MO_enter_13 (σ : MS) (w13_0 : Bool) : MS := if (zb w13_0) = 0 then (f_MO_enter_76 σ w13_0) else (if (zb (m_slot σ)) = 0 then (f_MO_enter_44 σ w13_0 (m_pc σ)) else (f_MO_enter_44 σ w13_0 ((m_pc σ) - (4 : Int32))))
def f_MO_enter (σ : MS) : MS := if (zb (f_MO_isIn σ (1 : Int32))) = 0 then (f_MO_enter_13 σ true) else (f_MO_enter_13 σ false)
def P_MO_enter_c10 (σ255 : MS)   : Prop := True
def P_MO_enter_c9 (σ242 : MS)   : Prop := vp_in (m_fault σ242) 14 ∧ vp_in (m_fault σ242) 14 ∧ P_MO_enter_c10 (ms_faults σ242 (upd (m_faults σ242) (Int32.toNatClampNeg (m_fault σ242)) ((m_faults σ242 (Int32.toNatClampNeg (m_fault σ242))) + (1 : Int32))))  
def P_MO_enter_c8 (σ224 : MS)   : Prop := P_MO_enter_c9 (ms_sys σ224 (upd (m_sys σ224) (Int32.toNatClampNeg (12 : Int32)) ((m_sys σ224 (Int32.toNatClampNeg (12 : Int32))) ||| (2 : Int32))))  
def P_MO_enter_c7 (σ219 : MS)   : Prop := P_MO_enter_c8 (ms_slot σ219 false)  
def P_MO_enter_219 (σ219 : MS) (w219_1 : Int32) : Prop := P_MO_enter_c7 (ms_pc σ219 w219_1)  
def P_MO_enter_217 (σ217 : MS) : Prop := P_MO_enter_219 σ217 (-2147483264 : Int32)
def P_MO_enter_200 (σ200 : MS) (v200_1 : Bool) : Prop := (((zb (m_refills σ200)) = 0) → (P_MO_enter_217 σ200)) ∧ (¬ ((zb (m_refills σ200)) = 0) → ((((zb v200_1) = 0) → (P_MO_enter_217 σ200)) ∧ (¬ ((zb v200_1) = 0) → (P_MO_enter_219 σ200 (-2147483648 : Int32)))))
def P_MO_enter_c6 (σ199 : MS)  (v119_1 : Bool) : Prop := P_MO_enter_200 σ199 v119_1
def P_MO_enter_c5 (σ172 : MS)  (v119_1 : Bool) : Prop := P_MO_enter_c6 (ms_sys σ172 (upd (m_sys σ172) (Int32.toNatClampNeg (10 : Int32)) (((m_sys σ172 (Int32.toNatClampNeg (10 : Int32))) &&& (255 : Int32)) ||| ((m_faultAt σ172) &&& (-8192 : Int32)))))  v119_1
def P_MO_enter_c4 (σ138 : MS)  (v119_1 : Bool) : Prop := (((4 : Int32) ≤ (m_fault σ138)) → (P_MO_enter_200 σ138 v119_1)) ∧ (¬ ((4 : Int32) ≤ (m_fault σ138)) → (P_MO_enter_c5 (ms_sys σ138 (upd (m_sys σ138) (Int32.toNatClampNeg (4 : Int32)) (((m_sys σ138 (Int32.toNatClampNeg (4 : Int32))) &&& (-8388608 : Int32)) ||| (((Int32.toUInt32 (m_faultAt σ138) >>> (Int32.toUInt32 (9 : Int32) &&& Int32.toUInt32 31)).toInt32) &&& (8388592 : Int32)))))  v119_1))
def P_MO_enter_c3 (σ120 : MS)  (v119_1 : Bool) : Prop := (((zb (m_hasAddress σ120)) = 0) → (P_MO_enter_200 σ120 v119_1)) ∧ (¬ ((zb (m_hasAddress σ120)) = 0) → (P_MO_enter_c4 (ms_sys σ120 (upd (m_sys σ120) (Int32.toNatClampNeg (8 : Int32)) (m_faultAt σ120)))  v119_1))
def P_MO_enter_119 (σ119 : MS) (v119_1 : Bool) (w119_2 : Int32) (w119_3 : Int32) : Prop := P_MO_enter_c3 (ms_sys σ119 (upd (m_sys σ119) (Int32.toNatClampNeg (13 : Int32)) (w119_2 ||| w119_3)))  v119_1
def P_MO_enter_76 (σ76 : MS) (v76_1 : Bool) : Prop := (((m_fault σ76) = (11 : Int32)) → (P_MO_enter_119 σ76 v76_1 (((m_sys σ76 (Int32.toNatClampNeg (13 : Int32))) &&& (-805306493 : Int32)) ||| ((m_fault σ76) <<< ((2 : Int32) &&& 31))) ((m_unit σ76) <<< ((28 : Int32) &&& 31)))) ∧ (¬ ((m_fault σ76) = (11 : Int32)) → (P_MO_enter_119 σ76 v76_1 (((m_sys σ76 (Int32.toNatClampNeg (13 : Int32))) &&& (-805306493 : Int32)) ||| ((m_fault σ76) <<< ((2 : Int32) &&& 31))) (0 : Int32)))
def P_MO_enter_c2 (σ75 : MS)  (v74_1 : Bool) : Prop := P_MO_enter_76 σ75 v74_1
def P_MO_enter_74 (σ74 : MS) (v74_1 : Bool) (w74_2 : Int32) (w74_3 : Int32) : Prop := P_MO_enter_c2 (ms_sys σ74 (upd (m_sys σ74) (Int32.toNatClampNeg (13 : Int32)) (w74_2 ||| w74_3)))  v74_1
def P_MO_enter_c1 (σ44 : MS)  (v44_1 : Bool) : Prop := (((zb (m_slot σ44)) = 0) → (P_MO_enter_74 σ44 v44_1 ((m_sys σ44 (Int32.toNatClampNeg (13 : Int32))) &&& (2147483647 : Int32)) (0 : Int32))) ∧ (¬ ((zb (m_slot σ44)) = 0) → (P_MO_enter_74 σ44 v44_1 ((m_sys σ44 (Int32.toNatClampNeg (13 : Int32))) &&& (2147483647 : Int32)) (-2147483648 : Int32)))
def P_MO_enter_44 (σ : MS) (v44_1 : Bool) (w44_2 : Int32) : Prop := P_MO_enter_c1 (ms_sys σ (upd (m_sys σ) (Int32.toNatClampNeg (14 : Int32)) w44_2))  v44_1
def P_MO_enter_13 (σ : MS) (w13_0 : Bool) : Prop := (((zb w13_0) = 0) → (P_MO_enter_76 σ w13_0)) ∧ (¬ ((zb w13_0) = 0) → ((((zb (m_slot σ)) = 0) → (P_MO_enter_44 σ w13_0 (m_pc σ))) ∧ (¬ ((zb (m_slot σ)) = 0) → (P_MO_enter_44 σ w13_0 ((m_pc σ) - (4 : Int32))))))
def P_MO_enter (σ : MS) : Prop := (((zb (f_MO_isIn σ (1 : Int32))) = 0) → (P_MO_enter_13 σ true)) ∧ (¬ ((zb (f_MO_isIn σ (1 : Int32))) = 0) → (P_MO_enter_13 σ false))
theorem d_MO_enter_0 : decode b_MO_enter 0 = .ok (.aload_n 0, 1) := by decide +kernel
theorem d_MO_enter_1 : decode b_MO_enter 1 = .ok (.iconst 1, 1) := by decide +kernel
theorem d_MO_enter_2 : decode b_MO_enter 2 = .ok (.invokevirtual 93, 3) := by decide +kernel
theorem d_MO_enter_5 : decode b_MO_enter 5 = .ok (.ifCond .ne 7, 3) := by decide +kernel
theorem d_MO_enter_8 : decode b_MO_enter 8 = .ok (.iconst 1, 1) := by decide +kernel
theorem d_MO_enter_9 : decode b_MO_enter 9 = .ok (.goto 4, 3) := by decide +kernel
theorem d_MO_enter_12 : decode b_MO_enter 12 = .ok (.iconst 0, 1) := by decide +kernel
theorem d_MO_enter_13 : decode b_MO_enter 13 = .ok (.istore_n 1, 1) := by decide +kernel
theorem d_MO_enter_14 : decode b_MO_enter 14 = .ok (.iload_n 1, 1) := by decide +kernel
theorem d_MO_enter_15 : decode b_MO_enter 15 = .ok (.ifCond .eq 61, 3) := by decide +kernel
theorem d_MO_enter_18 : decode b_MO_enter 18 = .ok (.aload_n 0, 1) := by decide +kernel
theorem d_MO_enter_19 : decode b_MO_enter 19 = .ok (.getfield 17, 3) := by decide +kernel
theorem d_MO_enter_22 : decode b_MO_enter 22 = .ok (.bipush 14, 2) := by decide +kernel
theorem d_MO_enter_24 : decode b_MO_enter 24 = .ok (.aload_n 0, 1) := by decide +kernel
theorem d_MO_enter_25 : decode b_MO_enter 25 = .ok (.getfield 68, 3) := by decide +kernel
theorem d_MO_enter_28 : decode b_MO_enter 28 = .ok (.ifCond .eq 12, 3) := by decide +kernel
theorem d_MO_enter_31 : decode b_MO_enter 31 = .ok (.aload_n 0, 1) := by decide +kernel
theorem d_MO_enter_32 : decode b_MO_enter 32 = .ok (.getfield 40, 3) := by decide +kernel
theorem d_MO_enter_35 : decode b_MO_enter 35 = .ok (.iconst 4, 1) := by decide +kernel
theorem d_MO_enter_36 : decode b_MO_enter 36 = .ok (.isub, 1) := by decide +kernel
theorem d_MO_enter_37 : decode b_MO_enter 37 = .ok (.goto 7, 3) := by decide +kernel
theorem d_MO_enter_40 : decode b_MO_enter 40 = .ok (.aload_n 0, 1) := by decide +kernel
theorem d_MO_enter_41 : decode b_MO_enter 41 = .ok (.getfield 40, 3) := by decide +kernel
theorem d_MO_enter_44 : decode b_MO_enter 44 = .ok (.iastore, 1) := by decide +kernel
theorem d_MO_enter_45 : decode b_MO_enter 45 = .ok (.aload_n 0, 1) := by decide +kernel
theorem d_MO_enter_46 : decode b_MO_enter 46 = .ok (.getfield 17, 3) := by decide +kernel
theorem d_MO_enter_49 : decode b_MO_enter 49 = .ok (.bipush 13, 2) := by decide +kernel
theorem d_MO_enter_51 : decode b_MO_enter 51 = .ok (.aload_n 0, 1) := by decide +kernel
theorem d_MO_enter_52 : decode b_MO_enter 52 = .ok (.getfield 17, 3) := by decide +kernel
theorem d_MO_enter_55 : decode b_MO_enter 55 = .ok (.bipush 13, 2) := by decide +kernel
theorem d_MO_enter_57 : decode b_MO_enter 57 = .ok (.iaload, 1) := by decide +kernel
theorem d_MO_enter_58 : decode b_MO_enter 58 = .ok (.ldc 132, 2) := by decide +kernel
theorem d_MO_enter_60 : decode b_MO_enter 60 = .ok (.iand, 1) := by decide +kernel
theorem d_MO_enter_61 : decode b_MO_enter 61 = .ok (.aload_n 0, 1) := by decide +kernel
theorem d_MO_enter_62 : decode b_MO_enter 62 = .ok (.getfield 68, 3) := by decide +kernel
theorem d_MO_enter_65 : decode b_MO_enter 65 = .ok (.ifCond .eq 8, 3) := by decide +kernel
theorem d_MO_enter_68 : decode b_MO_enter 68 = .ok (.ldc 39, 2) := by decide +kernel
theorem d_MO_enter_70 : decode b_MO_enter 70 = .ok (.goto 4, 3) := by decide +kernel
theorem d_MO_enter_73 : decode b_MO_enter 73 = .ok (.iconst 0, 1) := by decide +kernel
theorem d_MO_enter_74 : decode b_MO_enter 74 = .ok (.ior, 1) := by decide +kernel
theorem d_MO_enter_75 : decode b_MO_enter 75 = .ok (.iastore, 1) := by decide +kernel
theorem d_MO_enter_76 : decode b_MO_enter 76 = .ok (.aload_n 0, 1) := by decide +kernel
theorem d_MO_enter_77 : decode b_MO_enter 77 = .ok (.getfield 17, 3) := by decide +kernel
theorem d_MO_enter_80 : decode b_MO_enter 80 = .ok (.bipush 13, 2) := by decide +kernel
theorem d_MO_enter_82 : decode b_MO_enter 82 = .ok (.aload_n 0, 1) := by decide +kernel
theorem d_MO_enter_83 : decode b_MO_enter 83 = .ok (.getfield 17, 3) := by decide +kernel
theorem d_MO_enter_86 : decode b_MO_enter 86 = .ok (.bipush 13, 2) := by decide +kernel
theorem d_MO_enter_88 : decode b_MO_enter 88 = .ok (.iaload, 1) := by decide +kernel
theorem d_MO_enter_89 : decode b_MO_enter 89 = .ok (.ldc 133, 2) := by decide +kernel
theorem d_MO_enter_91 : decode b_MO_enter 91 = .ok (.iand, 1) := by decide +kernel
theorem d_MO_enter_92 : decode b_MO_enter 92 = .ok (.aload_n 0, 1) := by decide +kernel
theorem d_MO_enter_93 : decode b_MO_enter 93 = .ok (.getfield 45, 3) := by decide +kernel
theorem d_MO_enter_96 : decode b_MO_enter 96 = .ok (.iconst 2, 1) := by decide +kernel
theorem d_MO_enter_97 : decode b_MO_enter 97 = .ok (.ishl, 1) := by decide +kernel
theorem d_MO_enter_98 : decode b_MO_enter 98 = .ok (.ior, 1) := by decide +kernel
theorem d_MO_enter_99 : decode b_MO_enter 99 = .ok (.aload_n 0, 1) := by decide +kernel
theorem d_MO_enter_100 : decode b_MO_enter 100 = .ok (.getfield 45, 3) := by decide +kernel
theorem d_MO_enter_103 : decode b_MO_enter 103 = .ok (.bipush 11, 2) := by decide +kernel
theorem d_MO_enter_105 : decode b_MO_enter 105 = .ok (.if_icmp .ne 13, 3) := by decide +kernel
theorem d_MO_enter_108 : decode b_MO_enter 108 = .ok (.aload_n 0, 1) := by decide +kernel
theorem d_MO_enter_109 : decode b_MO_enter 109 = .ok (.getfield 134, 3) := by decide +kernel
theorem d_MO_enter_112 : decode b_MO_enter 112 = .ok (.bipush 28, 2) := by decide +kernel
theorem d_MO_enter_114 : decode b_MO_enter 114 = .ok (.ishl, 1) := by decide +kernel
theorem d_MO_enter_115 : decode b_MO_enter 115 = .ok (.goto 4, 3) := by decide +kernel
theorem d_MO_enter_118 : decode b_MO_enter 118 = .ok (.iconst 0, 1) := by decide +kernel
theorem d_MO_enter_119 : decode b_MO_enter 119 = .ok (.ior, 1) := by decide +kernel
theorem d_MO_enter_120 : decode b_MO_enter 120 = .ok (.iastore, 1) := by decide +kernel
theorem d_MO_enter_121 : decode b_MO_enter 121 = .ok (.aload_n 0, 1) := by decide +kernel
theorem d_MO_enter_122 : decode b_MO_enter 122 = .ok (.getfield 100, 3) := by decide +kernel
theorem d_MO_enter_125 : decode b_MO_enter 125 = .ok (.ifCond .eq 75, 3) := by decide +kernel
theorem d_MO_enter_128 : decode b_MO_enter 128 = .ok (.aload_n 0, 1) := by decide +kernel
theorem d_MO_enter_129 : decode b_MO_enter 129 = .ok (.getfield 17, 3) := by decide +kernel
theorem d_MO_enter_132 : decode b_MO_enter 132 = .ok (.bipush 8, 2) := by decide +kernel
theorem d_MO_enter_134 : decode b_MO_enter 134 = .ok (.aload_n 0, 1) := by decide +kernel
theorem d_MO_enter_135 : decode b_MO_enter 135 = .ok (.getfield 97, 3) := by decide +kernel
theorem d_MO_enter_138 : decode b_MO_enter 138 = .ok (.iastore, 1) := by decide +kernel
theorem d_MO_enter_139 : decode b_MO_enter 139 = .ok (.aload_n 0, 1) := by decide +kernel
theorem d_MO_enter_140 : decode b_MO_enter 140 = .ok (.getfield 45, 3) := by decide +kernel
theorem d_MO_enter_143 : decode b_MO_enter 143 = .ok (.iconst 4, 1) := by decide +kernel
theorem d_MO_enter_144 : decode b_MO_enter 144 = .ok (.if_icmp .ge 56, 3) := by decide +kernel
theorem d_MO_enter_147 : decode b_MO_enter 147 = .ok (.aload_n 0, 1) := by decide +kernel
theorem d_MO_enter_148 : decode b_MO_enter 148 = .ok (.getfield 17, 3) := by decide +kernel
theorem d_MO_enter_151 : decode b_MO_enter 151 = .ok (.iconst 4, 1) := by decide +kernel
theorem d_MO_enter_152 : decode b_MO_enter 152 = .ok (.aload_n 0, 1) := by decide +kernel
theorem d_MO_enter_153 : decode b_MO_enter 153 = .ok (.getfield 17, 3) := by decide +kernel
theorem d_MO_enter_156 : decode b_MO_enter 156 = .ok (.iconst 4, 1) := by decide +kernel
theorem d_MO_enter_157 : decode b_MO_enter 157 = .ok (.iaload, 1) := by decide +kernel
theorem d_MO_enter_158 : decode b_MO_enter 158 = .ok (.ldc 88, 2) := by decide +kernel
theorem d_MO_enter_160 : decode b_MO_enter 160 = .ok (.iand, 1) := by decide +kernel
theorem d_MO_enter_161 : decode b_MO_enter 161 = .ok (.aload_n 0, 1) := by decide +kernel
theorem d_MO_enter_162 : decode b_MO_enter 162 = .ok (.getfield 97, 3) := by decide +kernel
theorem d_MO_enter_165 : decode b_MO_enter 165 = .ok (.bipush 9, 2) := by decide +kernel
theorem d_MO_enter_167 : decode b_MO_enter 167 = .ok (.iushr, 1) := by decide +kernel
theorem d_MO_enter_168 : decode b_MO_enter 168 = .ok (.ldc 137, 2) := by decide +kernel
theorem d_MO_enter_170 : decode b_MO_enter 170 = .ok (.iand, 1) := by decide +kernel
theorem d_MO_enter_171 : decode b_MO_enter 171 = .ok (.ior, 1) := by decide +kernel
theorem d_MO_enter_172 : decode b_MO_enter 172 = .ok (.iastore, 1) := by decide +kernel
theorem d_MO_enter_173 : decode b_MO_enter 173 = .ok (.aload_n 0, 1) := by decide +kernel
theorem d_MO_enter_174 : decode b_MO_enter 174 = .ok (.getfield 17, 3) := by decide +kernel
theorem d_MO_enter_177 : decode b_MO_enter 177 = .ok (.bipush 10, 2) := by decide +kernel
theorem d_MO_enter_179 : decode b_MO_enter 179 = .ok (.aload_n 0, 1) := by decide +kernel
theorem d_MO_enter_180 : decode b_MO_enter 180 = .ok (.getfield 17, 3) := by decide +kernel
theorem d_MO_enter_183 : decode b_MO_enter 183 = .ok (.bipush 10, 2) := by decide +kernel
theorem d_MO_enter_185 : decode b_MO_enter 185 = .ok (.iaload, 1) := by decide +kernel
theorem d_MO_enter_186 : decode b_MO_enter 186 = .ok (.sipush 255, 3) := by decide +kernel
theorem d_MO_enter_189 : decode b_MO_enter 189 = .ok (.iand, 1) := by decide +kernel
theorem d_MO_enter_190 : decode b_MO_enter 190 = .ok (.aload_n 0, 1) := by decide +kernel
theorem d_MO_enter_191 : decode b_MO_enter 191 = .ok (.getfield 97, 3) := by decide +kernel
theorem d_MO_enter_194 : decode b_MO_enter 194 = .ok (.sipush (-8192), 3) := by decide +kernel
theorem d_MO_enter_197 : decode b_MO_enter 197 = .ok (.iand, 1) := by decide +kernel
theorem d_MO_enter_198 : decode b_MO_enter 198 = .ok (.ior, 1) := by decide +kernel
theorem d_MO_enter_199 : decode b_MO_enter 199 = .ok (.iastore, 1) := by decide +kernel
theorem d_MO_enter_200 : decode b_MO_enter 200 = .ok (.aload_n 0, 1) := by decide +kernel
theorem d_MO_enter_201 : decode b_MO_enter 201 = .ok (.aload_n 0, 1) := by decide +kernel
theorem d_MO_enter_202 : decode b_MO_enter 202 = .ok (.getfield 103, 3) := by decide +kernel
theorem d_MO_enter_205 : decode b_MO_enter 205 = .ok (.ifCond .eq 12, 3) := by decide +kernel
theorem d_MO_enter_208 : decode b_MO_enter 208 = .ok (.iload_n 1, 1) := by decide +kernel
theorem d_MO_enter_209 : decode b_MO_enter 209 = .ok (.ifCond .eq 8, 3) := by decide +kernel
theorem d_MO_enter_212 : decode b_MO_enter 212 = .ok (.ldc 39, 2) := by decide +kernel
theorem d_MO_enter_214 : decode b_MO_enter 214 = .ok (.goto 5, 3) := by decide +kernel
theorem d_MO_enter_217 : decode b_MO_enter 217 = .ok (.ldc 138, 2) := by decide +kernel
theorem d_MO_enter_219 : decode b_MO_enter 219 = .ok (.putfield 40, 3) := by decide +kernel
theorem d_MO_enter_222 : decode b_MO_enter 222 = .ok (.aload_n 0, 1) := by decide +kernel
theorem d_MO_enter_223 : decode b_MO_enter 223 = .ok (.iconst 0, 1) := by decide +kernel
theorem d_MO_enter_224 : decode b_MO_enter 224 = .ok (.putfield 68, 3) := by decide +kernel
theorem d_MO_enter_227 : decode b_MO_enter 227 = .ok (.aload_n 0, 1) := by decide +kernel
theorem d_MO_enter_228 : decode b_MO_enter 228 = .ok (.getfield 17, 3) := by decide +kernel
theorem d_MO_enter_231 : decode b_MO_enter 231 = .ok (.bipush 12, 2) := by decide +kernel
theorem d_MO_enter_233 : decode b_MO_enter 233 = .ok (.aload_n 0, 1) := by decide +kernel
theorem d_MO_enter_234 : decode b_MO_enter 234 = .ok (.getfield 17, 3) := by decide +kernel
theorem d_MO_enter_237 : decode b_MO_enter 237 = .ok (.bipush 12, 2) := by decide +kernel
theorem d_MO_enter_239 : decode b_MO_enter 239 = .ok (.iaload, 1) := by decide +kernel
theorem d_MO_enter_240 : decode b_MO_enter 240 = .ok (.iconst 2, 1) := by decide +kernel
theorem d_MO_enter_241 : decode b_MO_enter 241 = .ok (.ior, 1) := by decide +kernel
theorem d_MO_enter_242 : decode b_MO_enter 242 = .ok (.iastore, 1) := by decide +kernel
theorem d_MO_enter_243 : decode b_MO_enter 243 = .ok (.aload_n 0, 1) := by decide +kernel
theorem d_MO_enter_244 : decode b_MO_enter 244 = .ok (.getfield 36, 3) := by decide +kernel
theorem d_MO_enter_247 : decode b_MO_enter 247 = .ok (.aload_n 0, 1) := by decide +kernel
theorem d_MO_enter_248 : decode b_MO_enter 248 = .ok (.getfield 45, 3) := by decide +kernel
theorem d_MO_enter_251 : decode b_MO_enter 251 = .ok (.dup2, 1) := by decide +kernel
theorem d_MO_enter_252 : decode b_MO_enter 252 = .ok (.iaload, 1) := by decide +kernel
theorem d_MO_enter_253 : decode b_MO_enter 253 = .ok (.iconst 1, 1) := by decide +kernel
theorem d_MO_enter_254 : decode b_MO_enter 254 = .ok (.iadd, 1) := by decide +kernel
theorem d_MO_enter_255 : decode b_MO_enter 255 = .ok (.iastore, 1) := by decide +kernel
theorem d_MO_enter_256 : decode b_MO_enter 256 = .ok (.return_, 1) := by decide +kernel
set_option maxHeartbeats 4000000 in
set_option maxRecDepth 100000 in
theorem c_MO_enter (l : Launch) (E : Ev) (ad : Nat → Nat) (σ : MS) (hp : P_MO_enter σ) : rC xCl l E (mW E ad) y_MO_enter b_MO_enter 2 (Option.none : Option Jvm.ClassFile.FieldType) (rmo 1 21) [.ref (ad 0)] σ (zV (f_MO_enter σ)) := by
  refine rC.of (by decide) (Nat.le_of_ble_eq_true rfl) ?_
  intro p e s m below meth c A ls hc w hl
  generalize e0 : zV (f_MO_enter σ) = Z
  have hc : Cx xCl E A p s m ([.ref (ad 0)] : List Value).toArray meth c b_MO_enter 2 (Option.none : Option Jvm.ClassFile.FieldType) "PageMachineModel" := hc
  have hx := hc.1
  have hb := hc.2.1
  have ho := hc.2.2.2.2.2.1
  have hT := hc.2.2.2.2.2.2.1
  have hl : lv_has ls 2 [(0, .ref (ad 0))] := hl
  have J219 : ∀ (σ219 : MS) (w219_1 : Int32) (H : Heap) (locs : List Loc) (ls : Array Slot), Wd xCl E A s.heap H locs (mW E ad σ219) → lv_has ls 2 [(0, .ref (ad 0))] → zV (f_MO_enter_219 σ219 w219_1) = Z → P_MO_enter_219 σ219 w219_1 → W p l e (rmo 1 21) s m ([.ref (ad 0)] : List Value).toArray below meth c H locs 0 0 (MQ below (rQ xCl (mW E ad) E A Z) ([.ref (ad 0)] : List Value).toArray s 0 0 A) (F0 m 219 ls [.int w219_1, .ref (ad 0)]) := by
    intro σ219 w219_1 H locs ls w hl e219 hp
    unfold P_MO_enter_219 at hp
    refine p_MO_pc hc w mw_891 d_MO_enter_219 (fun σ219 H locs hs219 w => ?_)
    rw [hs219] at hp
    unfold P_MO_enter_c7 at hp
    have e_c7 : zV (f_MO_enter_c7 σ219  ) = Z := by rw [← e219, f_MO_enter_219, hs219]
    refine lv_aload_n hx hb d_MO_enter_222 rfl (lv_at hl 0 rfl) ?_
    refine lv_iconst (v := 0) hx hb d_MO_enter_223 (by decide) ?_
    refine p_MO_slot (v := false) hc w mw_894 d_MO_enter_224 (fun σ224 H locs hs224 w => ?_)
    rw [hs224] at hp
    unfold P_MO_enter_c8 at hp
    have e_c8 : zV (f_MO_enter_c8 σ224  ) = Z := by rw [← e_c7, f_MO_enter_c7, hs224]
    refine lv_aload_n hx hb d_MO_enter_227 rfl (lv_at hl 0 rfl) ?_
    refine g_MO_sys hc w mw_895 d_MO_enter_228 ?_
    refine lv_bipush (v := 12) hx hb d_MO_enter_231 (by decide) ?_
    refine lv_aload_n hx hb d_MO_enter_233 rfl (lv_at hl 0 rfl) ?_
    refine g_MO_sys hc w mw_895 d_MO_enter_234 ?_
    refine lv_bipush (v := 12) hx hb d_MO_enter_237 (by decide) ?_
    refine a_MO_sys hc w (by unfold vp_in; decide) d_MO_enter_239 ?_
    refine lv_iconst (v := 2) hx hb d_MO_enter_240 (by decide) ?_
    refine lv_ior hx hb d_MO_enter_241 ?_
    refine s_MO_sys hc w (by unfold vp_in; decide) d_MO_enter_242 (fun σ242 H locs hs242 w => ?_)
    rw [hs242] at hp
    unfold P_MO_enter_c9 at hp
    have e_c9 : zV (f_MO_enter_c9 σ242  ) = Z := by rw [← e_c8, f_MO_enter_c8, hs242]
    refine lv_aload_n hx hb d_MO_enter_243 rfl (lv_at hl 0 rfl) ?_
    refine g_MO_faults hc w mw_903 d_MO_enter_244 ?_
    refine lv_aload_n hx hb d_MO_enter_247 rfl (lv_at hl 0 rfl) ?_
    refine g_MO_fault hc w mw_904 d_MO_enter_248 ?_
    refine lv_dup2_11 hx hb d_MO_enter_251 rfl rfl ?_
    obtain ⟨hb252, hp⟩ := hp
    refine a_MO_faults hc w hb252 d_MO_enter_252 ?_
    refine lv_iconst (v := 1) hx hb d_MO_enter_253 (by decide) ?_
    refine lv_iadd hx hb d_MO_enter_254 ?_
    obtain ⟨hb255, hp⟩ := hp
    refine s_MO_faults hc w hb255 d_MO_enter_255 (fun σ255 H locs hs255 w => ?_)
    rw [hs255] at hp
    unfold P_MO_enter_c10 at hp
    have e_c10 : zV (f_MO_enter_c10 σ255  ) = Z := by rw [← e_c9, f_MO_enter_c9, hs255]
    exact rt_v hc w d_MO_enter_256 (by rw [← e_c10, f_MO_enter_c10] <;> rfl)
  have J217 : ∀ (σ217 : MS) (H : Heap) (locs : List Loc) (ls : Array Slot), Wd xCl E A s.heap H locs (mW E ad σ217) → lv_has ls 2 [(0, .ref (ad 0))] → zV (f_MO_enter_217 σ217) = Z → P_MO_enter_217 σ217 → W p l e (rmo 1 21) s m ([.ref (ad 0)] : List Value).toArray below meth c H locs 0 0 (MQ below (rQ xCl (mW E ad) E A Z) ([.ref (ad 0)] : List Value).toArray s 0 0 A) (F0 m 217 ls [.ref (ad 0)]) := by
    intro σ217 H locs ls w hl e217 hp
    unfold P_MO_enter_217 at hp
    refine lv_ldc (v := -2147483264) hx hb ho (hT _ mw_1040) d_MO_enter_217 ?_
    exact J219 σ217 (-2147483264 : Int32) _ _ _ w (lv_sub hl [0] rfl) (by rw [← e217, f_MO_enter_217]) hp
  have J200 : ∀ (σ200 : MS) (v200_1 : Bool) (H : Heap) (locs : List Loc) (ls : Array Slot), Wd xCl E A s.heap H locs (mW E ad σ200) → lv_has ls 2 [(1, .int (zb v200_1)), (0, .ref (ad 0))] → zV (f_MO_enter_200 σ200 v200_1) = Z → P_MO_enter_200 σ200 v200_1 → W p l e (rmo 1 21) s m ([.ref (ad 0)] : List Value).toArray below meth c H locs 0 0 (MQ below (rQ xCl (mW E ad) E A Z) ([.ref (ad 0)] : List Value).toArray s 0 0 A) (F0 m 200 ls []) := by
    intro σ200 v200_1 H locs ls w hl e200 hp
    unfold P_MO_enter_200 at hp
    refine lv_aload_n hx hb d_MO_enter_200 rfl (lv_at hl 1 rfl) ?_
    refine lv_aload_n hx hb d_MO_enter_201 rfl (lv_at hl 1 rfl) ?_
    refine g_MO_refills hc w mw_908 d_MO_enter_202 ?_
    refine lv_if_eq (tgt := 217) hx hb d_MO_enter_205 (by decide) (fun q205 => ?_) (fun q205 => ?_)
    · have hp := hp.1 q205
      exact J217 σ200 _ _ _ w (lv_sub hl [1] rfl) (by rw [← e200, f_MO_enter_200, if_pos q205]) hp
    · have hp := hp.2 q205
      refine lv_iload_n hx hb d_MO_enter_208 rfl (lv_at hl 0 rfl) ?_
      refine lv_if_eq (tgt := 217) hx hb d_MO_enter_209 (by decide) (fun q209 => ?_) (fun q209 => ?_)
      · have hp := hp.1 q209
        exact J217 σ200 _ _ _ w (lv_sub hl [1] rfl) (by rw [← e200, f_MO_enter_200, if_neg q205, if_pos q209]) hp
      · have hp := hp.2 q209
        refine lv_ldc (v := -2147483648) hx hb ho (hT _ mw_884) d_MO_enter_212 ?_
        refine lv_goto (tgt := 219) hx hb d_MO_enter_214 (by decide) ?_
        exact J219 σ200 (-2147483648 : Int32) _ _ _ w (lv_sub hl [1] rfl) (by rw [← e200, f_MO_enter_200, if_neg q205, if_neg q209]) hp
  have J119 : ∀ (σ119 : MS) (v119_1 : Bool) (w119_2 : Int32) (w119_3 : Int32) (H : Heap) (locs : List Loc) (ls : Array Slot), Wd xCl E A s.heap H locs (mW E ad σ119) → lv_has ls 2 [(1, .int (zb v119_1)), (0, .ref (ad 0))] → zV (f_MO_enter_119 σ119 v119_1 w119_2 w119_3) = Z → P_MO_enter_119 σ119 v119_1 w119_2 w119_3 → W p l e (rmo 1 21) s m ([.ref (ad 0)] : List Value).toArray below meth c H locs 0 0 (MQ below (rQ xCl (mW E ad) E A Z) ([.ref (ad 0)] : List Value).toArray s 0 0 A) (F0 m 119 ls [.int w119_3, .int w119_2, .int (13 : Int32), .ref (ad 3)]) := by
    intro σ119 v119_1 w119_2 w119_3 H locs ls w hl e119 hp
    unfold P_MO_enter_119 at hp
    refine lv_ior hx hb d_MO_enter_119 ?_
    refine s_MO_sys hc w (by unfold vp_in; decide) d_MO_enter_120 (fun σ120 H locs hs120 w => ?_)
    rw [hs120] at hp
    unfold P_MO_enter_c3 at hp
    have e_c3 : zV (f_MO_enter_c3 σ120  v119_1) = Z := by rw [← e119, f_MO_enter_119, hs120]
    refine lv_aload_n hx hb d_MO_enter_121 rfl (lv_at hl 1 rfl) ?_
    refine g_MO_hasAddress hc w mw_907 d_MO_enter_122 ?_
    refine lv_if_eq (tgt := 200) hx hb d_MO_enter_125 (by decide) (fun q125 => ?_) (fun q125 => ?_)
    · have hp := hp.1 q125
      exact J200 σ120 v119_1 _ _ _ w (lv_sub hl [0, 1] rfl) (by rw [← e_c3, f_MO_enter_c3, if_pos q125]) hp
    · have hp := hp.2 q125
      refine lv_aload_n hx hb d_MO_enter_128 rfl (lv_at hl 1 rfl) ?_
      refine g_MO_sys hc w mw_895 d_MO_enter_129 ?_
      refine lv_bipush (v := 8) hx hb d_MO_enter_132 (by decide) ?_
      refine lv_aload_n hx hb d_MO_enter_134 rfl (lv_at hl 1 rfl) ?_
      refine g_MO_faultAt hc w mw_905 d_MO_enter_135 ?_
      refine s_MO_sys hc w (by unfold vp_in; decide) d_MO_enter_138 (fun σ138 H locs hs138 w => ?_)
      rw [hs138] at hp
      unfold P_MO_enter_c4 at hp
      have e_c4 : zV (f_MO_enter_c4 σ138  v119_1) = Z := by rw [← e_c3, f_MO_enter_c3, if_neg q125, hs138]
      refine lv_aload_n hx hb d_MO_enter_139 rfl (lv_at hl 1 rfl) ?_
      refine g_MO_fault hc w mw_904 d_MO_enter_140 ?_
      refine lv_iconst (v := 4) hx hb d_MO_enter_143 (by decide) ?_
      refine lv_icmp_ge (tgt := 200) hx hb d_MO_enter_144 (by decide) (fun q144 => ?_) (fun q144 => ?_)
      · have hp := hp.1 q144
        exact J200 σ138 v119_1 _ _ _ w (lv_sub hl [0, 1] rfl) (by rw [← e_c4, f_MO_enter_c4, if_pos q144]) hp
      · have hp := hp.2 q144
        refine lv_aload_n hx hb d_MO_enter_147 rfl (lv_at hl 1 rfl) ?_
        refine g_MO_sys hc w mw_895 d_MO_enter_148 ?_
        refine lv_iconst (v := 4) hx hb d_MO_enter_151 (by decide) ?_
        refine lv_aload_n hx hb d_MO_enter_152 rfl (lv_at hl 1 rfl) ?_
        refine g_MO_sys hc w mw_895 d_MO_enter_153 ?_
        refine lv_iconst (v := 4) hx hb d_MO_enter_156 (by decide) ?_
        refine a_MO_sys hc w (by unfold vp_in; decide) d_MO_enter_157 ?_
        refine lv_ldc (v := -8388608) hx hb ho (hT _ mw_998) d_MO_enter_158 ?_
        refine lv_iand hx hb d_MO_enter_160 ?_
        refine lv_aload_n hx hb d_MO_enter_161 rfl (lv_at hl 1 rfl) ?_
        refine g_MO_faultAt hc w mw_905 d_MO_enter_162 ?_
        refine lv_bipush (v := 9) hx hb d_MO_enter_165 (by decide) ?_
        refine lv_iushr hx hb d_MO_enter_167 rfl ?_
        refine lv_ldc (v := 8388592) hx hb ho (hT _ mw_1039) d_MO_enter_168 ?_
        refine lv_iand hx hb d_MO_enter_170 ?_
        refine lv_ior hx hb d_MO_enter_171 ?_
        refine s_MO_sys hc w (by unfold vp_in; decide) d_MO_enter_172 (fun σ172 H locs hs172 w => ?_)
        rw [hs172] at hp
        unfold P_MO_enter_c5 at hp
        have e_c5 : zV (f_MO_enter_c5 σ172  v119_1) = Z := by rw [← e_c4, f_MO_enter_c4, if_neg q144, hs172]
        refine lv_aload_n hx hb d_MO_enter_173 rfl (lv_at hl 1 rfl) ?_
        refine g_MO_sys hc w mw_895 d_MO_enter_174 ?_
        refine lv_bipush (v := 10) hx hb d_MO_enter_177 (by decide) ?_
        refine lv_aload_n hx hb d_MO_enter_179 rfl (lv_at hl 1 rfl) ?_
        refine g_MO_sys hc w mw_895 d_MO_enter_180 ?_
        refine lv_bipush (v := 10) hx hb d_MO_enter_183 (by decide) ?_
        refine a_MO_sys hc w (by unfold vp_in; decide) d_MO_enter_185 ?_
        refine lv_sipush (v := 255) hx hb d_MO_enter_186 (by decide) ?_
        refine lv_iand hx hb d_MO_enter_189 ?_
        refine lv_aload_n hx hb d_MO_enter_190 rfl (lv_at hl 1 rfl) ?_
        refine g_MO_faultAt hc w mw_905 d_MO_enter_191 ?_
        refine lv_sipush (v := -8192) hx hb d_MO_enter_194 (by decide) ?_
        refine lv_iand hx hb d_MO_enter_197 ?_
        refine lv_ior hx hb d_MO_enter_198 ?_
        refine s_MO_sys hc w (by unfold vp_in; decide) d_MO_enter_199 (fun σ199 H locs hs199 w => ?_)
        rw [hs199] at hp
        unfold P_MO_enter_c6 at hp
        have e_c6 : zV (f_MO_enter_c6 σ199  v119_1) = Z := by rw [← e_c5, f_MO_enter_c5, hs199]
        exact J200 σ199 v119_1 _ _ _ w (lv_sub hl [0, 1] rfl) (by rw [← e_c6, f_MO_enter_c6]) hp
  have J76 : ∀ (σ76 : MS) (v76_1 : Bool) (H : Heap) (locs : List Loc) (ls : Array Slot), Wd xCl E A s.heap H locs (mW E ad σ76) → lv_has ls 2 [(1, .int (zb v76_1)), (0, .ref (ad 0))] → zV (f_MO_enter_76 σ76 v76_1) = Z → P_MO_enter_76 σ76 v76_1 → W p l e (rmo 1 21) s m ([.ref (ad 0)] : List Value).toArray below meth c H locs 0 0 (MQ below (rQ xCl (mW E ad) E A Z) ([.ref (ad 0)] : List Value).toArray s 0 0 A) (F0 m 76 ls []) := by
    intro σ76 v76_1 H locs ls w hl e76 hp
    unfold P_MO_enter_76 at hp
    refine lv_aload_n hx hb d_MO_enter_76 rfl (lv_at hl 1 rfl) ?_
    refine g_MO_sys hc w mw_895 d_MO_enter_77 ?_
    refine lv_bipush (v := 13) hx hb d_MO_enter_80 (by decide) ?_
    refine lv_aload_n hx hb d_MO_enter_82 rfl (lv_at hl 1 rfl) ?_
    refine g_MO_sys hc w mw_895 d_MO_enter_83 ?_
    refine lv_bipush (v := 13) hx hb d_MO_enter_86 (by decide) ?_
    refine a_MO_sys hc w (by unfold vp_in; decide) d_MO_enter_88 ?_
    refine lv_ldc (v := -805306493) hx hb ho (hT _ mw_1038) d_MO_enter_89 ?_
    refine lv_iand hx hb d_MO_enter_91 ?_
    refine lv_aload_n hx hb d_MO_enter_92 rfl (lv_at hl 1 rfl) ?_
    refine g_MO_fault hc w mw_904 d_MO_enter_93 ?_
    refine lv_iconst (v := 2) hx hb d_MO_enter_96 (by decide) ?_
    refine lv_ishl hx hb d_MO_enter_97 ?_
    refine lv_ior hx hb d_MO_enter_98 ?_
    refine lv_aload_n hx hb d_MO_enter_99 rfl (lv_at hl 1 rfl) ?_
    refine g_MO_fault hc w mw_904 d_MO_enter_100 ?_
    refine lv_bipush (v := 11) hx hb d_MO_enter_103 (by decide) ?_
    refine lv_icmp_ne (tgt := 118) hx hb d_MO_enter_105 (by decide) (fun q105 => ?_) (fun q105 => ?_)
    · have hp := hp.2 q105
      refine lv_iconst (v := 0) hx hb d_MO_enter_118 (by decide) ?_
      exact J119 σ76 v76_1 (((m_sys σ76 (Int32.toNatClampNeg (13 : Int32))) &&& (-805306493 : Int32)) ||| ((m_fault σ76) <<< ((2 : Int32) &&& 31))) (0 : Int32) _ _ _ w (lv_sub hl [0, 1] rfl) (by rw [← e76, f_MO_enter_76, if_neg q105]) hp
    · have hp := hp.1 q105
      refine lv_aload_n hx hb d_MO_enter_108 rfl (lv_at hl 1 rfl) ?_
      refine g_MO_unit hc w mw_906 d_MO_enter_109 ?_
      refine lv_bipush (v := 28) hx hb d_MO_enter_112 (by decide) ?_
      refine lv_ishl hx hb d_MO_enter_114 ?_
      refine lv_goto (tgt := 119) hx hb d_MO_enter_115 (by decide) ?_
      exact J119 σ76 v76_1 (((m_sys σ76 (Int32.toNatClampNeg (13 : Int32))) &&& (-805306493 : Int32)) ||| ((m_fault σ76) <<< ((2 : Int32) &&& 31))) ((m_unit σ76) <<< ((28 : Int32) &&& 31)) _ _ _ w (lv_sub hl [0, 1] rfl) (by rw [← e76, f_MO_enter_76, if_pos q105]) hp
  have J74 : ∀ (σ74 : MS) (v74_1 : Bool) (w74_2 : Int32) (w74_3 : Int32) (H : Heap) (locs : List Loc) (ls : Array Slot), Wd xCl E A s.heap H locs (mW E ad σ74) → lv_has ls 2 [(1, .int (zb v74_1)), (0, .ref (ad 0))] → zV (f_MO_enter_74 σ74 v74_1 w74_2 w74_3) = Z → P_MO_enter_74 σ74 v74_1 w74_2 w74_3 → W p l e (rmo 1 21) s m ([.ref (ad 0)] : List Value).toArray below meth c H locs 0 0 (MQ below (rQ xCl (mW E ad) E A Z) ([.ref (ad 0)] : List Value).toArray s 0 0 A) (F0 m 74 ls [.int w74_3, .int w74_2, .int (13 : Int32), .ref (ad 3)]) := by
    intro σ74 v74_1 w74_2 w74_3 H locs ls w hl e74 hp
    unfold P_MO_enter_74 at hp
    refine lv_ior hx hb d_MO_enter_74 ?_
    refine s_MO_sys hc w (by unfold vp_in; decide) d_MO_enter_75 (fun σ75 H locs hs75 w => ?_)
    rw [hs75] at hp
    unfold P_MO_enter_c2 at hp
    have e_c2 : zV (f_MO_enter_c2 σ75  v74_1) = Z := by rw [← e74, f_MO_enter_74, hs75]
    exact J76 σ75 v74_1 _ _ _ w (lv_sub hl [0, 1] rfl) (by rw [← e_c2, f_MO_enter_c2]) hp
  have J44 : ∀ (v44_1 : Bool) (w44_2 : Int32) (H : Heap) (locs : List Loc) (ls : Array Slot), Wd xCl E A s.heap H locs (mW E ad σ) → lv_has ls 2 [(1, .int (zb v44_1)), (0, .ref (ad 0))] → zV (f_MO_enter_44 σ v44_1 w44_2) = Z → P_MO_enter_44 σ v44_1 w44_2 → W p l e (rmo 1 21) s m ([.ref (ad 0)] : List Value).toArray below meth c H locs 0 0 (MQ below (rQ xCl (mW E ad) E A Z) ([.ref (ad 0)] : List Value).toArray s 0 0 A) (F0 m 44 ls [.int w44_2, .int (14 : Int32), .ref (ad 3)]) := by
    intro v44_1 w44_2 H locs ls w hl e44 hp
    unfold P_MO_enter_44 at hp
    refine s_MO_sys hc w (by unfold vp_in; decide) d_MO_enter_44 (fun σ44 H locs hs44 w => ?_)
    rw [hs44] at hp
    unfold P_MO_enter_c1 at hp
    have e_c1 : zV (f_MO_enter_c1 σ44  v44_1) = Z := by rw [← e44, f_MO_enter_44, hs44]
    refine lv_aload_n hx hb d_MO_enter_45 rfl (lv_at hl 1 rfl) ?_
    refine g_MO_sys hc w mw_895 d_MO_enter_46 ?_
    refine lv_bipush (v := 13) hx hb d_MO_enter_49 (by decide) ?_
    refine lv_aload_n hx hb d_MO_enter_51 rfl (lv_at hl 1 rfl) ?_
    refine g_MO_sys hc w mw_895 d_MO_enter_52 ?_
    refine lv_bipush (v := 13) hx hb d_MO_enter_55 (by decide) ?_
    refine a_MO_sys hc w (by unfold vp_in; decide) d_MO_enter_57 ?_
    refine lv_ldc (v := 2147483647) hx hb ho (hT _ mw_1037) d_MO_enter_58 ?_
    refine lv_iand hx hb d_MO_enter_60 ?_
    refine lv_aload_n hx hb d_MO_enter_61 rfl (lv_at hl 1 rfl) ?_
    refine g_MO_slot hc w mw_894 d_MO_enter_62 ?_
    refine lv_if_eq (tgt := 73) hx hb d_MO_enter_65 (by decide) (fun q65 => ?_) (fun q65 => ?_)
    · have hp := hp.1 q65
      refine lv_iconst (v := 0) hx hb d_MO_enter_73 (by decide) ?_
      exact J74 σ44 v44_1 ((m_sys σ44 (Int32.toNatClampNeg (13 : Int32))) &&& (2147483647 : Int32)) (0 : Int32) _ _ _ w (lv_sub hl [0, 1] rfl) (by rw [← e_c1, f_MO_enter_c1, if_pos q65]) hp
    · have hp := hp.2 q65
      refine lv_ldc (v := -2147483648) hx hb ho (hT _ mw_884) d_MO_enter_68 ?_
      refine lv_goto (tgt := 74) hx hb d_MO_enter_70 (by decide) ?_
      exact J74 σ44 v44_1 ((m_sys σ44 (Int32.toNatClampNeg (13 : Int32))) &&& (2147483647 : Int32)) (-2147483648 : Int32) _ _ _ w (lv_sub hl [0, 1] rfl) (by rw [← e_c1, f_MO_enter_c1, if_neg q65]) hp
  have J13 : ∀ (w13_0 : Bool) (H : Heap) (locs : List Loc) (ls : Array Slot), Wd xCl E A s.heap H locs (mW E ad σ) → lv_has ls 2 [(0, .ref (ad 0))] → zV (f_MO_enter_13 σ w13_0) = Z → P_MO_enter_13 σ w13_0 → W p l e (rmo 1 21) s m ([.ref (ad 0)] : List Value).toArray below meth c H locs 0 0 (MQ below (rQ xCl (mW E ad) E A Z) ([.ref (ad 0)] : List Value).toArray s 0 0 A) (F0 m 13 ls [.int (zb w13_0)]) := by
    intro w13_0 H locs ls w hl e13 hp
    unfold P_MO_enter_13 at hp
    refine lv_istore_n (lv' := [(1, .int (zb w13_0)), (0, .ref (ad 0))]) hx hb d_MO_enter_13 rfl hl (by decide) rfl (fun ls hl => ?_)
    refine lv_iload_n hx hb d_MO_enter_14 rfl (lv_at hl 0 rfl) ?_
    refine lv_if_eq (tgt := 76) hx hb d_MO_enter_15 (by decide) (fun q15 => ?_) (fun q15 => ?_)
    · have hp := hp.1 q15
      exact J76 σ w13_0 _ _ _ w (lv_sub hl [0, 1] rfl) (by rw [← e13, f_MO_enter_13, if_pos q15]) hp
    · have hp := hp.2 q15
      refine lv_aload_n hx hb d_MO_enter_18 rfl (lv_at hl 1 rfl) ?_
      refine g_MO_sys hc w mw_895 d_MO_enter_19 ?_
      refine lv_bipush (v := 14) hx hb d_MO_enter_22 (by decide) ?_
      refine lv_aload_n hx hb d_MO_enter_24 rfl (lv_at hl 1 rfl) ?_
      refine g_MO_slot hc w mw_894 d_MO_enter_25 ?_
      refine lv_if_eq (tgt := 40) hx hb d_MO_enter_28 (by decide) (fun q28 => ?_) (fun q28 => ?_)
      · have hp := hp.1 q28
        refine lv_aload_n hx hb d_MO_enter_40 rfl (lv_at hl 1 rfl) ?_
        refine g_MO_pc hc w mw_891 d_MO_enter_41 ?_
        exact J44 w13_0 (m_pc σ) _ _ _ w (lv_sub hl [0, 1] rfl) (by rw [← e13, f_MO_enter_13, if_neg q15, if_pos q28]) hp
      · have hp := hp.2 q28
        refine lv_aload_n hx hb d_MO_enter_31 rfl (lv_at hl 1 rfl) ?_
        refine g_MO_pc hc w mw_891 d_MO_enter_32 ?_
        refine lv_iconst (v := 4) hx hb d_MO_enter_35 (by decide) ?_
        refine lv_isub hx hb d_MO_enter_36 ?_
        refine lv_goto (tgt := 44) hx hb d_MO_enter_37 (by decide) ?_
        exact J44 w13_0 ((m_pc σ) - (4 : Int32)) _ _ _ w (lv_sub hl [0, 1] rfl) (by rw [← e13, f_MO_enter_13, if_neg q15, if_neg q28]) hp
  unfold P_MO_enter at hp
  refine lv_aload_n hx hb d_MO_enter_0 rfl (lv_at hl 0 rfl) ?_
  refine lv_iconst (v := 1) hx hb d_MO_enter_1 (by decide) ?_
  refine rVZ (rest := []) hc w (c_MO_isIn l E ad σ (1 : Int32)) kv_MO_isIn mw_1028 0 rfl rfl ⟨Nat.le_of_ble_eq_true rfl, Nat.le_of_ble_eq_true rfl⟩ hl.1 rfl (Nat.le_of_ble_eq_true rfl) ⟨Nat.zero_le _, Nat.zero_le _⟩ d_MO_enter_2 (fun H locs w => ?_)
  refine lv_if_ne (tgt := 12) hx hb d_MO_enter_5 (by decide) (fun q5 => ?_) (fun q5 => ?_)
  · have hp := hp.2 q5
    refine lv_iconst (v := 0) hx hb d_MO_enter_12 (by decide) ?_
    exact J13 false _ _ _ w (lv_sub hl [0] rfl) (by rw [← e0, f_MO_enter, if_neg q5]) hp
  · have hp := hp.1 q5
    refine lv_iconst (v := 1) hx hb d_MO_enter_8 (by decide) ?_
    refine lv_goto (tgt := 13) hx hb d_MO_enter_9 (by decide) ?_
    exact J13 true _ _ _ w (lv_sub hl [0] rfl) (by rw [← e0, f_MO_enter, if_pos q5]) hp
-- MO_raise
def f_MO_raise_c1 (σ2 : MS) (a1 : Int32)  : MS × Int32 := (σ2, (0 : Int32))
def f_MO_raise (σ : MS) (a1 : Int32) : MS × Int32 := f_MO_raise_c1 (ms_fault σ a1) a1 
theorem d_MO_raise_0 : decode b_MO_raise 0 = .ok (.aload_n 0, 1) := by decide +kernel
theorem d_MO_raise_1 : decode b_MO_raise 1 = .ok (.iload_n 1, 1) := by decide +kernel
theorem d_MO_raise_2 : decode b_MO_raise 2 = .ok (.putfield 45, 3) := by decide +kernel
theorem d_MO_raise_5 : decode b_MO_raise 5 = .ok (.iconst 0, 1) := by decide +kernel
theorem d_MO_raise_6 : decode b_MO_raise 6 = .ok (.ireturn, 1) := by decide +kernel
set_option maxHeartbeats 4000000 in
set_option maxRecDepth 100000 in
theorem c_MO_raise (l : Launch) (E : Ev) (ad : Nat → Nat) (σ : MS) (a1 : Int32) : rC xCl l E (mW E ad) y_MO_raise b_MO_raise 2 (Option.some Jvm.ClassFile.FieldType.int) (rmo 0 0) [.ref (ad 0), .int a1] σ (zI (f_MO_raise σ a1)) := by
  refine rC.of (by decide) (Nat.le_of_ble_eq_true rfl) ?_
  intro p e s m below meth c A ls hc w hl
  generalize e0 : zI (f_MO_raise σ a1) = Z
  have hc : Cx xCl E A p s m ([.ref (ad 0), .int a1] : List Value).toArray meth c b_MO_raise 2 (Option.some Jvm.ClassFile.FieldType.int) "PageMachineModel" := hc
  have hx := hc.1
  have hb := hc.2.1
  have ho := hc.2.2.2.2.2.1
  have hT := hc.2.2.2.2.2.2.1
  have hl : lv_has ls 2 [(0, .ref (ad 0)), (1, .int a1)] := hl
  refine lv_aload_n hx hb d_MO_raise_0 rfl (lv_at hl 0 rfl) ?_
  refine lv_iload_n hx hb d_MO_raise_1 rfl (lv_at hl 1 rfl) ?_
  refine p_MO_fault hc w mw_904 d_MO_raise_2 (fun σ2 H locs hs2 w => ?_)
  have e_c1 : zI (f_MO_raise_c1 σ2 a1 ) = Z := by rw [← e0, f_MO_raise, hs2]
  refine lv_iconst (v := 0) hx hb d_MO_raise_5 (by decide) ?_
  exact rt_i hc w d_MO_raise_6 (by rw [← e_c1, f_MO_raise_c1] <;> rfl)
-- MO_isCalled
def f_MO_isCalled (σ : MS) : Bool := if (zb (f_MO_isIn σ (0 : Int32))) = 0 then (false) else (if (zb (f_MO_isIn σ (1 : Int32))) = 0 then (if (((f_MO_read σ (13 : Int32)) &&& (m_sys σ (Int32.toNatClampNeg (12 : Int32)))) &&& (65280 : Int32)) = 0 then (false) else (true)) else (false))
theorem d_MO_isCalled_0 : decode b_MO_isCalled 0 = .ok (.aload_n 0, 1) := by decide +kernel
theorem d_MO_isCalled_1 : decode b_MO_isCalled 1 = .ok (.iconst 0, 1) := by decide +kernel
theorem d_MO_isCalled_2 : decode b_MO_isCalled 2 = .ok (.invokevirtual 93, 3) := by decide +kernel
theorem d_MO_isCalled_5 : decode b_MO_isCalled 5 = .ok (.ifCond .eq 35, 3) := by decide +kernel
theorem d_MO_isCalled_8 : decode b_MO_isCalled 8 = .ok (.aload_n 0, 1) := by decide +kernel
theorem d_MO_isCalled_9 : decode b_MO_isCalled 9 = .ok (.iconst 1, 1) := by decide +kernel
theorem d_MO_isCalled_10 : decode b_MO_isCalled 10 = .ok (.invokevirtual 93, 3) := by decide +kernel
theorem d_MO_isCalled_13 : decode b_MO_isCalled 13 = .ok (.ifCond .ne 27, 3) := by decide +kernel
theorem d_MO_isCalled_16 : decode b_MO_isCalled 16 = .ok (.aload_n 0, 1) := by decide +kernel
theorem d_MO_isCalled_17 : decode b_MO_isCalled 17 = .ok (.bipush 13, 2) := by decide +kernel
theorem d_MO_isCalled_19 : decode b_MO_isCalled 19 = .ok (.invokevirtual 81, 3) := by decide +kernel
theorem d_MO_isCalled_22 : decode b_MO_isCalled 22 = .ok (.aload_n 0, 1) := by decide +kernel
theorem d_MO_isCalled_23 : decode b_MO_isCalled 23 = .ok (.getfield 17, 3) := by decide +kernel
theorem d_MO_isCalled_26 : decode b_MO_isCalled 26 = .ok (.bipush 12, 2) := by decide +kernel
theorem d_MO_isCalled_28 : decode b_MO_isCalled 28 = .ok (.iaload, 1) := by decide +kernel
theorem d_MO_isCalled_29 : decode b_MO_isCalled 29 = .ok (.iand, 1) := by decide +kernel
theorem d_MO_isCalled_30 : decode b_MO_isCalled 30 = .ok (.ldc 139, 2) := by decide +kernel
theorem d_MO_isCalled_32 : decode b_MO_isCalled 32 = .ok (.iand, 1) := by decide +kernel
theorem d_MO_isCalled_33 : decode b_MO_isCalled 33 = .ok (.ifCond .eq 7, 3) := by decide +kernel
theorem d_MO_isCalled_36 : decode b_MO_isCalled 36 = .ok (.iconst 1, 1) := by decide +kernel
theorem d_MO_isCalled_37 : decode b_MO_isCalled 37 = .ok (.goto 4, 3) := by decide +kernel
theorem d_MO_isCalled_40 : decode b_MO_isCalled 40 = .ok (.iconst 0, 1) := by decide +kernel
theorem d_MO_isCalled_41 : decode b_MO_isCalled 41 = .ok (.ireturn, 1) := by decide +kernel
set_option maxHeartbeats 4000000 in
set_option maxRecDepth 100000 in
theorem c_MO_isCalled (l : Launch) (E : Ev) (ad : Nat → Nat) (σ : MS) : rC xCl l E (mW E ad) y_MO_isCalled b_MO_isCalled 1 (Option.some Jvm.ClassFile.FieldType.boolean) (rmo 1 23) [.ref (ad 0)] σ ((σ, some (Value.int (zb (f_MO_isCalled σ))))) := by
  refine rC.of (by decide) (Nat.le_of_ble_eq_true rfl) ?_
  intro p e s m below meth c A ls hc w hl
  generalize e0 : (σ, some (Value.int (zb (f_MO_isCalled σ)))) = Z
  have hc : Cx xCl E A p s m ([.ref (ad 0)] : List Value).toArray meth c b_MO_isCalled 1 (Option.some Jvm.ClassFile.FieldType.boolean) "PageMachineModel" := hc
  have hx := hc.1
  have hb := hc.2.1
  have ho := hc.2.2.2.2.2.1
  have hT := hc.2.2.2.2.2.2.1
  have hl : lv_has ls 1 [(0, .ref (ad 0))] := hl
  refine lv_aload_n hx hb d_MO_isCalled_0 rfl (lv_at hl 0 rfl) ?_
  refine lv_iconst (v := 0) hx hb d_MO_isCalled_1 (by decide) ?_
  refine rVZ (rest := []) hc w (c_MO_isIn l E ad σ (0 : Int32)) kv_MO_isIn mw_1028 0 rfl rfl ⟨Nat.le_of_ble_eq_true rfl, Nat.le_of_ble_eq_true rfl⟩ hl.1 rfl (Nat.le_of_ble_eq_true rfl) ⟨Nat.zero_le _, Nat.zero_le _⟩ d_MO_isCalled_2 (fun H locs w => ?_)
  refine lv_if_eq (tgt := 40) hx hb d_MO_isCalled_5 (by decide) (fun q5 => ?_) (fun q5 => ?_)
  · refine lv_iconst (v := 0) hx hb d_MO_isCalled_40 (by decide) ?_
    exact rt_z (v := false) hc w d_MO_isCalled_41 rfl (by rw [← e0, f_MO_isCalled, if_pos q5] <;> rfl)
  · refine lv_aload_n hx hb d_MO_isCalled_8 rfl (lv_at hl 0 rfl) ?_
    refine lv_iconst (v := 1) hx hb d_MO_isCalled_9 (by decide) ?_
    refine rVZ (rest := []) hc w (c_MO_isIn l E ad σ (1 : Int32)) kv_MO_isIn mw_1028 0 rfl rfl ⟨Nat.le_of_ble_eq_true rfl, Nat.le_of_ble_eq_true rfl⟩ hl.1 rfl (Nat.le_of_ble_eq_true rfl) ⟨Nat.zero_le _, Nat.zero_le _⟩ d_MO_isCalled_10 (fun H locs w => ?_)
    refine lv_if_ne (tgt := 40) hx hb d_MO_isCalled_13 (by decide) (fun q13 => ?_) (fun q13 => ?_)
    · refine lv_iconst (v := 0) hx hb d_MO_isCalled_40 (by decide) ?_
      exact rt_z (v := false) hc w d_MO_isCalled_41 rfl (by rw [← e0, f_MO_isCalled, if_neg q5, if_neg q13] <;> rfl)
    · refine lv_aload_n hx hb d_MO_isCalled_16 rfl (lv_at hl 0 rfl) ?_
      refine lv_bipush (v := 13) hx hb d_MO_isCalled_17 (by decide) ?_
      refine rVI (rest := []) hc w (c_MO_read l E ad σ (13 : Int32) (by unfold vp_in; decide)) kv_MO_read mw_1008 0 rfl rfl ⟨Nat.le_of_ble_eq_true rfl, Nat.le_of_ble_eq_true rfl⟩ hl.1 rfl (Nat.le_of_ble_eq_true rfl) ⟨Nat.zero_le _, Nat.zero_le _⟩ d_MO_isCalled_19 (fun H locs w => ?_)
      refine lv_aload_n hx hb d_MO_isCalled_22 rfl (lv_at hl 0 rfl) ?_
      refine g_MO_sys hc w mw_895 d_MO_isCalled_23 ?_
      refine lv_bipush (v := 12) hx hb d_MO_isCalled_26 (by decide) ?_
      refine a_MO_sys hc w (by unfold vp_in; decide) d_MO_isCalled_28 ?_
      refine lv_iand hx hb d_MO_isCalled_29 ?_
      refine lv_ldc (v := 65280) hx hb ho (hT _ mw_1032) d_MO_isCalled_30 ?_
      refine lv_iand hx hb d_MO_isCalled_32 ?_
      refine lv_if_eq (tgt := 40) hx hb d_MO_isCalled_33 (by decide) (fun q33 => ?_) (fun q33 => ?_)
      · refine lv_iconst (v := 0) hx hb d_MO_isCalled_40 (by decide) ?_
        exact rt_z (v := false) hc w d_MO_isCalled_41 rfl (by rw [← e0, f_MO_isCalled, if_neg q5, if_pos q13, if_pos q33] <;> rfl)
      · refine lv_iconst (v := 1) hx hb d_MO_isCalled_36 (by decide) ?_
        refine lv_goto (tgt := 41) hx hb d_MO_isCalled_37 (by decide) ?_
        exact rt_z (v := true) hc w d_MO_isCalled_41 rfl (by rw [← e0, f_MO_isCalled, if_neg q5, if_pos q13, if_neg q33] <;> rfl)
-- MO_isBelow
def f_MO_isBelow (σ : MS) (a1 : Int32) (a2 : Int32) : Bool := if (a2 + (-2147483648 : Int32)) ≤ (a1 + (-2147483648 : Int32)) then (false) else (true)
theorem d_MO_isBelow_0 : decode b_MO_isBelow 0 = .ok (.iload_n 0, 1) := by decide +kernel
theorem d_MO_isBelow_1 : decode b_MO_isBelow 1 = .ok (.ldc 39, 2) := by decide +kernel
theorem d_MO_isBelow_3 : decode b_MO_isBelow 3 = .ok (.iadd, 1) := by decide +kernel
theorem d_MO_isBelow_4 : decode b_MO_isBelow 4 = .ok (.iload_n 1, 1) := by decide +kernel
theorem d_MO_isBelow_5 : decode b_MO_isBelow 5 = .ok (.ldc 39, 2) := by decide +kernel
theorem d_MO_isBelow_7 : decode b_MO_isBelow 7 = .ok (.iadd, 1) := by decide +kernel
theorem d_MO_isBelow_8 : decode b_MO_isBelow 8 = .ok (.if_icmp .ge 7, 3) := by decide +kernel
theorem d_MO_isBelow_11 : decode b_MO_isBelow 11 = .ok (.iconst 1, 1) := by decide +kernel
theorem d_MO_isBelow_12 : decode b_MO_isBelow 12 = .ok (.goto 4, 3) := by decide +kernel
theorem d_MO_isBelow_15 : decode b_MO_isBelow 15 = .ok (.iconst 0, 1) := by decide +kernel
theorem d_MO_isBelow_16 : decode b_MO_isBelow 16 = .ok (.ireturn, 1) := by decide +kernel
set_option maxHeartbeats 4000000 in
set_option maxRecDepth 100000 in
theorem c_MO_isBelow (l : Launch) (E : Ev) (ad : Nat → Nat) (σ : MS) (a1 : Int32) (a2 : Int32) : rC xCl l E (mW E ad) y_MO_isBelow b_MO_isBelow 2 (Option.some Jvm.ClassFile.FieldType.boolean) (rmo 0 0) [.int a1, .int a2] σ ((σ, some (Value.int (zb (f_MO_isBelow σ a1 a2))))) := by
  refine rC.of (by decide) (Nat.le_of_ble_eq_true rfl) ?_
  intro p e s m below meth c A ls hc w hl
  generalize e0 : (σ, some (Value.int (zb (f_MO_isBelow σ a1 a2)))) = Z
  have hc : Cx xCl E A p s m ([.int a1, .int a2] : List Value).toArray meth c b_MO_isBelow 2 (Option.some Jvm.ClassFile.FieldType.boolean) "PageMachineModel" := hc
  have hx := hc.1
  have hb := hc.2.1
  have ho := hc.2.2.2.2.2.1
  have hT := hc.2.2.2.2.2.2.1
  have hl : lv_has ls 2 [(0, .int a1), (1, .int a2)] := hl
  refine lv_iload_n hx hb d_MO_isBelow_0 rfl (lv_at hl 0 rfl) ?_
  refine lv_ldc (v := -2147483648) hx hb ho (hT _ mw_884) d_MO_isBelow_1 ?_
  refine lv_iadd hx hb d_MO_isBelow_3 ?_
  refine lv_iload_n hx hb d_MO_isBelow_4 rfl (lv_at hl 1 rfl) ?_
  refine lv_ldc (v := -2147483648) hx hb ho (hT _ mw_884) d_MO_isBelow_5 ?_
  refine lv_iadd hx hb d_MO_isBelow_7 ?_
  refine lv_icmp_ge (tgt := 15) hx hb d_MO_isBelow_8 (by decide) (fun q8 => ?_) (fun q8 => ?_)
  · refine lv_iconst (v := 0) hx hb d_MO_isBelow_15 (by decide) ?_
    exact rt_z (v := false) hc w d_MO_isBelow_16 rfl (by rw [← e0, f_MO_isBelow, if_pos q8] <;> rfl)
  · refine lv_iconst (v := 1) hx hb d_MO_isBelow_11 (by decide) ?_
    refine lv_goto (tgt := 16) hx hb d_MO_isBelow_12 (by decide) ?_
    exact rt_z (v := true) hc w d_MO_isBelow_16 rfl (by rw [← e0, f_MO_isBelow, if_neg q8] <;> rfl)
-- MO_other
def f_MO_other_c2 (z123 : MS × Int32) (a1 : Int32)  : MS := z123.1
def f_MO_other_123 (σ123 : MS) (a1 : Int32) (w123_1 : Int32) : MS := f_MO_other_c2 (f_MO_raise σ123 w123_1) a1 
def f_MO_other_116 (σ116 : MS) (a1 : Int32) : MS := f_MO_other_123 σ116 a1 (11 : Int32)
def f_MO_other_c1 (σ97 : MS) (a1 : Int32) (v97_4 : Bool) (v97_3 : Bool) : MS := if (zb v97_3) = 0 then (if (zb v97_4) = 0 then (if a1 = (19 : Int32) then (f_MO_other_116 σ97 a1) else (f_MO_other_123 σ97 a1 (10 : Int32))) else (f_MO_other_116 σ97 a1)) else (f_MO_other_116 σ97 a1)
def f_MO_other_97 (σ : MS) (a1 : Int32) (v97_4 : Bool) (v97_3 : Bool) (w97_1 : Int32) : MS := f_MO_other_c1 (ms_unit σ w97_1) a1 v97_4 v97_3
def f_MO_other_76 (σ : MS) (a1 : Int32) (v76_3 : Bool) (v76_2 : Int32) (w76_0 : Bool) : MS := if (zb v76_3) = 0 then (if (zb w76_0) = 0 then (f_MO_other_97 σ a1 w76_0 v76_3 v76_2) else (f_MO_other_97 σ a1 w76_0 v76_3 (2 : Int32))) else (f_MO_other_97 σ a1 w76_0 v76_3 (1 : Int32))
def f_MO_other_71 (σ : MS) (a1 : Int32) (v71_3 : Bool) (v71_2 : Int32) : MS := f_MO_other_76 σ a1 v71_3 v71_2 true
def f_MO_other_40 (σ : MS) (a1 : Int32) (v40_2 : Int32) (w40_0 : Bool) : MS := if a1 = (18 : Int32) then (f_MO_other_71 σ a1 w40_0 v40_2) else (if a1 = (50 : Int32) then (f_MO_other_71 σ a1 w40_0 v40_2) else (if a1 = (54 : Int32) then (f_MO_other_71 σ a1 w40_0 v40_2) else (if a1 = (58 : Int32) then (f_MO_other_71 σ a1 w40_0 v40_2) else (if a1 = (62 : Int32) then (f_MO_other_71 σ a1 w40_0 v40_2) else (f_MO_other_76 σ a1 w40_0 v40_2 false)))))
def f_MO_other_35 (σ : MS) (a1 : Int32) (v35_2 : Int32) : MS := f_MO_other_40 σ a1 v35_2 true
def f_MO_other (σ : MS) (a1 : Int32) : MS := if a1 = (17 : Int32) then (f_MO_other_35 σ a1 (a1 &&& (15 : Int32))) else (if a1 = (49 : Int32) then (f_MO_other_35 σ a1 (a1 &&& (15 : Int32))) else (if a1 = (53 : Int32) then (f_MO_other_35 σ a1 (a1 &&& (15 : Int32))) else (if a1 = (57 : Int32) then (f_MO_other_35 σ a1 (a1 &&& (15 : Int32))) else (if a1 = (61 : Int32) then (f_MO_other_35 σ a1 (a1 &&& (15 : Int32))) else (f_MO_other_40 σ a1 (a1 &&& (15 : Int32)) false)))))
theorem d_MO_other_0 : decode b_MO_other 0 = .ok (.iload_n 1, 1) := by decide +kernel
theorem d_MO_other_1 : decode b_MO_other 1 = .ok (.bipush 15, 2) := by decide +kernel
theorem d_MO_other_3 : decode b_MO_other 3 = .ok (.iand, 1) := by decide +kernel
theorem d_MO_other_4 : decode b_MO_other 4 = .ok (.istore_n 2, 1) := by decide +kernel
theorem d_MO_other_5 : decode b_MO_other 5 = .ok (.iload_n 1, 1) := by decide +kernel
theorem d_MO_other_6 : decode b_MO_other 6 = .ok (.bipush 17, 2) := by decide +kernel
theorem d_MO_other_8 : decode b_MO_other 8 = .ok (.if_icmp .eq 27, 3) := by decide +kernel
theorem d_MO_other_11 : decode b_MO_other 11 = .ok (.iload_n 1, 1) := by decide +kernel
theorem d_MO_other_12 : decode b_MO_other 12 = .ok (.bipush 49, 2) := by decide +kernel
theorem d_MO_other_14 : decode b_MO_other 14 = .ok (.if_icmp .eq 21, 3) := by decide +kernel
theorem d_MO_other_17 : decode b_MO_other 17 = .ok (.iload_n 1, 1) := by decide +kernel
theorem d_MO_other_18 : decode b_MO_other 18 = .ok (.bipush 53, 2) := by decide +kernel
theorem d_MO_other_20 : decode b_MO_other 20 = .ok (.if_icmp .eq 15, 3) := by decide +kernel
theorem d_MO_other_23 : decode b_MO_other 23 = .ok (.iload_n 1, 1) := by decide +kernel
theorem d_MO_other_24 : decode b_MO_other 24 = .ok (.bipush 57, 2) := by decide +kernel
theorem d_MO_other_26 : decode b_MO_other 26 = .ok (.if_icmp .eq 9, 3) := by decide +kernel
theorem d_MO_other_29 : decode b_MO_other 29 = .ok (.iload_n 1, 1) := by decide +kernel
theorem d_MO_other_30 : decode b_MO_other 30 = .ok (.bipush 61, 2) := by decide +kernel
theorem d_MO_other_32 : decode b_MO_other 32 = .ok (.if_icmp .ne 7, 3) := by decide +kernel
theorem d_MO_other_35 : decode b_MO_other 35 = .ok (.iconst 1, 1) := by decide +kernel
theorem d_MO_other_36 : decode b_MO_other 36 = .ok (.goto 4, 3) := by decide +kernel
theorem d_MO_other_39 : decode b_MO_other 39 = .ok (.iconst 0, 1) := by decide +kernel
theorem d_MO_other_40 : decode b_MO_other 40 = .ok (.istore_n 3, 1) := by decide +kernel
theorem d_MO_other_41 : decode b_MO_other 41 = .ok (.iload_n 1, 1) := by decide +kernel
theorem d_MO_other_42 : decode b_MO_other 42 = .ok (.bipush 18, 2) := by decide +kernel
theorem d_MO_other_44 : decode b_MO_other 44 = .ok (.if_icmp .eq 27, 3) := by decide +kernel
theorem d_MO_other_47 : decode b_MO_other 47 = .ok (.iload_n 1, 1) := by decide +kernel
theorem d_MO_other_48 : decode b_MO_other 48 = .ok (.bipush 50, 2) := by decide +kernel
theorem d_MO_other_50 : decode b_MO_other 50 = .ok (.if_icmp .eq 21, 3) := by decide +kernel
theorem d_MO_other_53 : decode b_MO_other 53 = .ok (.iload_n 1, 1) := by decide +kernel
theorem d_MO_other_54 : decode b_MO_other 54 = .ok (.bipush 54, 2) := by decide +kernel
theorem d_MO_other_56 : decode b_MO_other 56 = .ok (.if_icmp .eq 15, 3) := by decide +kernel
theorem d_MO_other_59 : decode b_MO_other 59 = .ok (.iload_n 1, 1) := by decide +kernel
theorem d_MO_other_60 : decode b_MO_other 60 = .ok (.bipush 58, 2) := by decide +kernel
theorem d_MO_other_62 : decode b_MO_other 62 = .ok (.if_icmp .eq 9, 3) := by decide +kernel
theorem d_MO_other_65 : decode b_MO_other 65 = .ok (.iload_n 1, 1) := by decide +kernel
theorem d_MO_other_66 : decode b_MO_other 66 = .ok (.bipush 62, 2) := by decide +kernel
theorem d_MO_other_68 : decode b_MO_other 68 = .ok (.if_icmp .ne 7, 3) := by decide +kernel
theorem d_MO_other_71 : decode b_MO_other 71 = .ok (.iconst 1, 1) := by decide +kernel
theorem d_MO_other_72 : decode b_MO_other 72 = .ok (.goto 4, 3) := by decide +kernel
theorem d_MO_other_75 : decode b_MO_other 75 = .ok (.iconst 0, 1) := by decide +kernel
theorem d_MO_other_76 : decode b_MO_other 76 = .ok (.istore 4, 2) := by decide +kernel
theorem d_MO_other_78 : decode b_MO_other 78 = .ok (.aload_n 0, 1) := by decide +kernel
theorem d_MO_other_79 : decode b_MO_other 79 = .ok (.iload_n 3, 1) := by decide +kernel
theorem d_MO_other_80 : decode b_MO_other 80 = .ok (.ifCond .eq 7, 3) := by decide +kernel
theorem d_MO_other_83 : decode b_MO_other 83 = .ok (.iconst 1, 1) := by decide +kernel
theorem d_MO_other_84 : decode b_MO_other 84 = .ok (.goto 13, 3) := by decide +kernel
theorem d_MO_other_87 : decode b_MO_other 87 = .ok (.iload 4, 2) := by decide +kernel
theorem d_MO_other_89 : decode b_MO_other 89 = .ok (.ifCond .eq 7, 3) := by decide +kernel
theorem d_MO_other_92 : decode b_MO_other 92 = .ok (.iconst 2, 1) := by decide +kernel
theorem d_MO_other_93 : decode b_MO_other 93 = .ok (.goto 4, 3) := by decide +kernel
theorem d_MO_other_96 : decode b_MO_other 96 = .ok (.iload_n 2, 1) := by decide +kernel
theorem d_MO_other_97 : decode b_MO_other 97 = .ok (.putfield 134, 3) := by decide +kernel
theorem d_MO_other_100 : decode b_MO_other 100 = .ok (.aload_n 0, 1) := by decide +kernel
theorem d_MO_other_101 : decode b_MO_other 101 = .ok (.iload_n 3, 1) := by decide +kernel
theorem d_MO_other_102 : decode b_MO_other 102 = .ok (.ifCond .ne 14, 3) := by decide +kernel
theorem d_MO_other_105 : decode b_MO_other 105 = .ok (.iload 4, 2) := by decide +kernel
theorem d_MO_other_107 : decode b_MO_other 107 = .ok (.ifCond .ne 9, 3) := by decide +kernel
theorem d_MO_other_110 : decode b_MO_other 110 = .ok (.iload_n 1, 1) := by decide +kernel
theorem d_MO_other_111 : decode b_MO_other 111 = .ok (.bipush 19, 2) := by decide +kernel
theorem d_MO_other_113 : decode b_MO_other 113 = .ok (.if_icmp .ne 8, 3) := by decide +kernel
theorem d_MO_other_116 : decode b_MO_other 116 = .ok (.bipush 11, 2) := by decide +kernel
theorem d_MO_other_118 : decode b_MO_other 118 = .ok (.goto 5, 3) := by decide +kernel
theorem d_MO_other_121 : decode b_MO_other 121 = .ok (.bipush 10, 2) := by decide +kernel
theorem d_MO_other_123 : decode b_MO_other 123 = .ok (.invokevirtual 196, 3) := by decide +kernel
theorem d_MO_other_126 : decode b_MO_other 126 = .ok (.pop, 1) := by decide +kernel
theorem d_MO_other_127 : decode b_MO_other 127 = .ok (.return_, 1) := by decide +kernel
set_option maxHeartbeats 4000000 in
set_option maxRecDepth 100000 in
theorem c_MO_other (l : Launch) (E : Ev) (ad : Nat → Nat) (σ : MS) (a1 : Int32) : rC xCl l E (mW E ad) y_MO_other b_MO_other 5 (Option.none : Option Jvm.ClassFile.FieldType) (rmo 1 21) [.ref (ad 0), .int a1] σ (zV (f_MO_other σ a1)) := by
  refine rC.of (by decide) (Nat.le_of_ble_eq_true rfl) ?_
  intro p e s m below meth c A ls hc w hl
  generalize e0 : zV (f_MO_other σ a1) = Z
  have hc : Cx xCl E A p s m ([.ref (ad 0), .int a1] : List Value).toArray meth c b_MO_other 5 (Option.none : Option Jvm.ClassFile.FieldType) "PageMachineModel" := hc
  have hx := hc.1
  have hb := hc.2.1
  have ho := hc.2.2.2.2.2.1
  have hT := hc.2.2.2.2.2.2.1
  have hl : lv_has ls 5 [(0, .ref (ad 0)), (1, .int a1)] := hl
  have J123 : ∀ (σ123 : MS) (w123_1 : Int32) (H : Heap) (locs : List Loc) (ls : Array Slot), Wd xCl E A s.heap H locs (mW E ad σ123) → lv_has ls 5 [] → zV (f_MO_other_123 σ123 a1 w123_1) = Z → W p l e (rmo 1 21) s m ([.ref (ad 0), .int a1] : List Value).toArray below meth c H locs 0 0 (MQ below (rQ xCl (mW E ad) E A Z) ([.ref (ad 0), .int a1] : List Value).toArray s 0 0 A) (F0 m 123 ls [.int w123_1, .ref (ad 0)]) := by
    intro σ123 w123_1 H locs ls w hl e123
    refine cVI (rest := []) hc w (c_MO_raise l E ad σ123 w123_1) kv_MO_raise mw_1079 0 rfl rfl ⟨Nat.le_of_ble_eq_true rfl, Nat.le_of_ble_eq_true rfl⟩ hl.1 rfl (Nat.le_of_ble_eq_true rfl) ⟨Nat.zero_le _, Nat.zero_le _⟩ d_MO_other_123 (fun z123 H locs hs123 w => ?_)
    have e_c2 : zV (f_MO_other_c2 z123 a1 ) = Z := by rw [← e123, f_MO_other_123, hs123]
    refine lv_pop hx hb d_MO_other_126 rfl ?_
    exact rt_v hc w d_MO_other_127 (by rw [← e_c2, f_MO_other_c2] <;> rfl)
  have J116 : ∀ (σ116 : MS) (H : Heap) (locs : List Loc) (ls : Array Slot), Wd xCl E A s.heap H locs (mW E ad σ116) → lv_has ls 5 [] → zV (f_MO_other_116 σ116 a1) = Z → W p l e (rmo 1 21) s m ([.ref (ad 0), .int a1] : List Value).toArray below meth c H locs 0 0 (MQ below (rQ xCl (mW E ad) E A Z) ([.ref (ad 0), .int a1] : List Value).toArray s 0 0 A) (F0 m 116 ls [.ref (ad 0)]) := by
    intro σ116 H locs ls w hl e116
    refine lv_bipush (v := 11) hx hb d_MO_other_116 (by decide) ?_
    refine lv_goto (tgt := 123) hx hb d_MO_other_118 (by decide) ?_
    exact J123 σ116 (11 : Int32) _ _ _ w (lv_sub hl [] rfl) (by rw [← e116, f_MO_other_116])
  have J97 : ∀ (v97_4 : Bool) (v97_3 : Bool) (w97_1 : Int32) (H : Heap) (locs : List Loc) (ls : Array Slot), Wd xCl E A s.heap H locs (mW E ad σ) → lv_has ls 5 [(4, .int (zb v97_4)), (3, .int (zb v97_3)), (0, .ref (ad 0)), (1, .int a1)] → zV (f_MO_other_97 σ a1 v97_4 v97_3 w97_1) = Z → W p l e (rmo 1 21) s m ([.ref (ad 0), .int a1] : List Value).toArray below meth c H locs 0 0 (MQ below (rQ xCl (mW E ad) E A Z) ([.ref (ad 0), .int a1] : List Value).toArray s 0 0 A) (F0 m 97 ls [.int w97_1, .ref (ad 0)]) := by
    intro v97_4 v97_3 w97_1 H locs ls w hl e97
    refine p_MO_unit hc w mw_906 d_MO_other_97 (fun σ97 H locs hs97 w => ?_)
    have e_c1 : zV (f_MO_other_c1 σ97 a1 v97_4 v97_3) = Z := by rw [← e97, f_MO_other_97, hs97]
    refine lv_aload_n hx hb d_MO_other_100 rfl (lv_at hl 2 rfl) ?_
    refine lv_iload_n hx hb d_MO_other_101 rfl (lv_at hl 1 rfl) ?_
    refine lv_if_ne (tgt := 116) hx hb d_MO_other_102 (by decide) (fun q102 => ?_) (fun q102 => ?_)
    · exact J116 σ97 _ _ _ w (lv_sub hl [] rfl) (by rw [← e_c1, f_MO_other_c1, if_neg q102])
    · refine lv_iload hx hb d_MO_other_105 (lv_at hl 0 rfl) ?_
      refine lv_if_ne (tgt := 116) hx hb d_MO_other_107 (by decide) (fun q107 => ?_) (fun q107 => ?_)
      · exact J116 σ97 _ _ _ w (lv_sub hl [] rfl) (by rw [← e_c1, f_MO_other_c1, if_pos q102, if_neg q107])
      · refine lv_iload_n hx hb d_MO_other_110 rfl (lv_at hl 3 rfl) ?_
        refine lv_bipush (v := 19) hx hb d_MO_other_111 (by decide) ?_
        refine lv_icmp_ne (tgt := 121) hx hb d_MO_other_113 (by decide) (fun q113 => ?_) (fun q113 => ?_)
        · refine lv_bipush (v := 10) hx hb d_MO_other_121 (by decide) ?_
          exact J123 σ97 (10 : Int32) _ _ _ w (lv_sub hl [] rfl) (by rw [← e_c1, f_MO_other_c1, if_pos q102, if_pos q107, if_neg q113])
        · exact J116 σ97 _ _ _ w (lv_sub hl [] rfl) (by rw [← e_c1, f_MO_other_c1, if_pos q102, if_pos q107, if_pos q113])
  have J76 : ∀ (v76_3 : Bool) (v76_2 : Int32) (w76_0 : Bool) (H : Heap) (locs : List Loc) (ls : Array Slot), Wd xCl E A s.heap H locs (mW E ad σ) → lv_has ls 5 [(3, .int (zb v76_3)), (2, .int v76_2), (0, .ref (ad 0)), (1, .int a1)] → zV (f_MO_other_76 σ a1 v76_3 v76_2 w76_0) = Z → W p l e (rmo 1 21) s m ([.ref (ad 0), .int a1] : List Value).toArray below meth c H locs 0 0 (MQ below (rQ xCl (mW E ad) E A Z) ([.ref (ad 0), .int a1] : List Value).toArray s 0 0 A) (F0 m 76 ls [.int (zb w76_0)]) := by
    intro v76_3 v76_2 w76_0 H locs ls w hl e76
    refine lv_istore (lv' := [(4, .int (zb w76_0)), (3, .int (zb v76_3)), (2, .int v76_2), (0, .ref (ad 0)), (1, .int a1)]) hx hb d_MO_other_76 hl (by decide) rfl (fun ls hl => ?_)
    refine lv_aload_n hx hb d_MO_other_78 rfl (lv_at hl 3 rfl) ?_
    refine lv_iload_n hx hb d_MO_other_79 rfl (lv_at hl 1 rfl) ?_
    refine lv_if_eq (tgt := 87) hx hb d_MO_other_80 (by decide) (fun q80 => ?_) (fun q80 => ?_)
    · refine lv_iload hx hb d_MO_other_87 (lv_at hl 0 rfl) ?_
      refine lv_if_eq (tgt := 96) hx hb d_MO_other_89 (by decide) (fun q89 => ?_) (fun q89 => ?_)
      · refine lv_iload_n hx hb d_MO_other_96 rfl (lv_at hl 2 rfl) ?_
        exact J97 w76_0 v76_3 v76_2 _ _ _ w (lv_sub hl [0, 1, 3, 4] rfl) (by rw [← e76, f_MO_other_76, if_pos q80, if_pos q89])
      · refine lv_iconst (v := 2) hx hb d_MO_other_92 (by decide) ?_
        refine lv_goto (tgt := 97) hx hb d_MO_other_93 (by decide) ?_
        exact J97 w76_0 v76_3 (2 : Int32) _ _ _ w (lv_sub hl [0, 1, 3, 4] rfl) (by rw [← e76, f_MO_other_76, if_pos q80, if_neg q89])
    · refine lv_iconst (v := 1) hx hb d_MO_other_83 (by decide) ?_
      refine lv_goto (tgt := 97) hx hb d_MO_other_84 (by decide) ?_
      exact J97 w76_0 v76_3 (1 : Int32) _ _ _ w (lv_sub hl [0, 1, 3, 4] rfl) (by rw [← e76, f_MO_other_76, if_neg q80])
  have J71 : ∀ (v71_3 : Bool) (v71_2 : Int32) (H : Heap) (locs : List Loc) (ls : Array Slot), Wd xCl E A s.heap H locs (mW E ad σ) → lv_has ls 5 [(3, .int (zb v71_3)), (2, .int v71_2), (0, .ref (ad 0)), (1, .int a1)] → zV (f_MO_other_71 σ a1 v71_3 v71_2) = Z → W p l e (rmo 1 21) s m ([.ref (ad 0), .int a1] : List Value).toArray below meth c H locs 0 0 (MQ below (rQ xCl (mW E ad) E A Z) ([.ref (ad 0), .int a1] : List Value).toArray s 0 0 A) (F0 m 71 ls []) := by
    intro v71_3 v71_2 H locs ls w hl e71
    refine lv_iconst (v := 1) hx hb d_MO_other_71 (by decide) ?_
    refine lv_goto (tgt := 76) hx hb d_MO_other_72 (by decide) ?_
    exact J76 v71_3 v71_2 true _ _ _ w (lv_sub hl [0, 1, 2, 3] rfl) (by rw [← e71, f_MO_other_71])
  have J40 : ∀ (v40_2 : Int32) (w40_0 : Bool) (H : Heap) (locs : List Loc) (ls : Array Slot), Wd xCl E A s.heap H locs (mW E ad σ) → lv_has ls 5 [(2, .int v40_2), (0, .ref (ad 0)), (1, .int a1)] → zV (f_MO_other_40 σ a1 v40_2 w40_0) = Z → W p l e (rmo 1 21) s m ([.ref (ad 0), .int a1] : List Value).toArray below meth c H locs 0 0 (MQ below (rQ xCl (mW E ad) E A Z) ([.ref (ad 0), .int a1] : List Value).toArray s 0 0 A) (F0 m 40 ls [.int (zb w40_0)]) := by
    intro v40_2 w40_0 H locs ls w hl e40
    refine lv_istore_n (lv' := [(3, .int (zb w40_0)), (2, .int v40_2), (0, .ref (ad 0)), (1, .int a1)]) hx hb d_MO_other_40 rfl hl (by decide) rfl (fun ls hl => ?_)
    refine lv_iload_n hx hb d_MO_other_41 rfl (lv_at hl 3 rfl) ?_
    refine lv_bipush (v := 18) hx hb d_MO_other_42 (by decide) ?_
    refine lv_icmp_eq (tgt := 71) hx hb d_MO_other_44 (by decide) (fun q44 => ?_) (fun q44 => ?_)
    · exact J71 w40_0 v40_2 _ _ _ w (lv_sub hl [0, 1, 2, 3] rfl) (by rw [← e40, f_MO_other_40, if_pos q44])
    · refine lv_iload_n hx hb d_MO_other_47 rfl (lv_at hl 3 rfl) ?_
      refine lv_bipush (v := 50) hx hb d_MO_other_48 (by decide) ?_
      refine lv_icmp_eq (tgt := 71) hx hb d_MO_other_50 (by decide) (fun q50 => ?_) (fun q50 => ?_)
      · exact J71 w40_0 v40_2 _ _ _ w (lv_sub hl [0, 1, 2, 3] rfl) (by rw [← e40, f_MO_other_40, if_neg q44, if_pos q50])
      · refine lv_iload_n hx hb d_MO_other_53 rfl (lv_at hl 3 rfl) ?_
        refine lv_bipush (v := 54) hx hb d_MO_other_54 (by decide) ?_
        refine lv_icmp_eq (tgt := 71) hx hb d_MO_other_56 (by decide) (fun q56 => ?_) (fun q56 => ?_)
        · exact J71 w40_0 v40_2 _ _ _ w (lv_sub hl [0, 1, 2, 3] rfl) (by rw [← e40, f_MO_other_40, if_neg q44, if_neg q50, if_pos q56])
        · refine lv_iload_n hx hb d_MO_other_59 rfl (lv_at hl 3 rfl) ?_
          refine lv_bipush (v := 58) hx hb d_MO_other_60 (by decide) ?_
          refine lv_icmp_eq (tgt := 71) hx hb d_MO_other_62 (by decide) (fun q62 => ?_) (fun q62 => ?_)
          · exact J71 w40_0 v40_2 _ _ _ w (lv_sub hl [0, 1, 2, 3] rfl) (by rw [← e40, f_MO_other_40, if_neg q44, if_neg q50, if_neg q56, if_pos q62])
          · refine lv_iload_n hx hb d_MO_other_65 rfl (lv_at hl 3 rfl) ?_
            refine lv_bipush (v := 62) hx hb d_MO_other_66 (by decide) ?_
            refine lv_icmp_ne (tgt := 75) hx hb d_MO_other_68 (by decide) (fun q68 => ?_) (fun q68 => ?_)
            · refine lv_iconst (v := 0) hx hb d_MO_other_75 (by decide) ?_
              exact J76 w40_0 v40_2 false _ _ _ w (lv_sub hl [0, 1, 2, 3] rfl) (by rw [← e40, f_MO_other_40, if_neg q44, if_neg q50, if_neg q56, if_neg q62, if_neg q68])
            · exact J71 w40_0 v40_2 _ _ _ w (lv_sub hl [0, 1, 2, 3] rfl) (by rw [← e40, f_MO_other_40, if_neg q44, if_neg q50, if_neg q56, if_neg q62, if_pos q68])
  have J35 : ∀ (v35_2 : Int32) (H : Heap) (locs : List Loc) (ls : Array Slot), Wd xCl E A s.heap H locs (mW E ad σ) → lv_has ls 5 [(2, .int v35_2), (0, .ref (ad 0)), (1, .int a1)] → zV (f_MO_other_35 σ a1 v35_2) = Z → W p l e (rmo 1 21) s m ([.ref (ad 0), .int a1] : List Value).toArray below meth c H locs 0 0 (MQ below (rQ xCl (mW E ad) E A Z) ([.ref (ad 0), .int a1] : List Value).toArray s 0 0 A) (F0 m 35 ls []) := by
    intro v35_2 H locs ls w hl e35
    refine lv_iconst (v := 1) hx hb d_MO_other_35 (by decide) ?_
    refine lv_goto (tgt := 40) hx hb d_MO_other_36 (by decide) ?_
    exact J40 v35_2 true _ _ _ w (lv_sub hl [0, 1, 2] rfl) (by rw [← e35, f_MO_other_35])
  refine lv_iload_n hx hb d_MO_other_0 rfl (lv_at hl 1 rfl) ?_
  refine lv_bipush (v := 15) hx hb d_MO_other_1 (by decide) ?_
  refine lv_iand hx hb d_MO_other_3 ?_
  refine lv_istore_n (lv' := [(2, .int (a1 &&& (15 : Int32))), (0, .ref (ad 0)), (1, .int a1)]) hx hb d_MO_other_4 rfl hl (by decide) rfl (fun ls hl => ?_)
  refine lv_iload_n hx hb d_MO_other_5 rfl (lv_at hl 2 rfl) ?_
  refine lv_bipush (v := 17) hx hb d_MO_other_6 (by decide) ?_
  refine lv_icmp_eq (tgt := 35) hx hb d_MO_other_8 (by decide) (fun q8 => ?_) (fun q8 => ?_)
  · exact J35 (a1 &&& (15 : Int32)) _ _ _ w (lv_sub hl [0, 1, 2] rfl) (by rw [← e0, f_MO_other, if_pos q8])
  · refine lv_iload_n hx hb d_MO_other_11 rfl (lv_at hl 2 rfl) ?_
    refine lv_bipush (v := 49) hx hb d_MO_other_12 (by decide) ?_
    refine lv_icmp_eq (tgt := 35) hx hb d_MO_other_14 (by decide) (fun q14 => ?_) (fun q14 => ?_)
    · exact J35 (a1 &&& (15 : Int32)) _ _ _ w (lv_sub hl [0, 1, 2] rfl) (by rw [← e0, f_MO_other, if_neg q8, if_pos q14])
    · refine lv_iload_n hx hb d_MO_other_17 rfl (lv_at hl 2 rfl) ?_
      refine lv_bipush (v := 53) hx hb d_MO_other_18 (by decide) ?_
      refine lv_icmp_eq (tgt := 35) hx hb d_MO_other_20 (by decide) (fun q20 => ?_) (fun q20 => ?_)
      · exact J35 (a1 &&& (15 : Int32)) _ _ _ w (lv_sub hl [0, 1, 2] rfl) (by rw [← e0, f_MO_other, if_neg q8, if_neg q14, if_pos q20])
      · refine lv_iload_n hx hb d_MO_other_23 rfl (lv_at hl 2 rfl) ?_
        refine lv_bipush (v := 57) hx hb d_MO_other_24 (by decide) ?_
        refine lv_icmp_eq (tgt := 35) hx hb d_MO_other_26 (by decide) (fun q26 => ?_) (fun q26 => ?_)
        · exact J35 (a1 &&& (15 : Int32)) _ _ _ w (lv_sub hl [0, 1, 2] rfl) (by rw [← e0, f_MO_other, if_neg q8, if_neg q14, if_neg q20, if_pos q26])
        · refine lv_iload_n hx hb d_MO_other_29 rfl (lv_at hl 2 rfl) ?_
          refine lv_bipush (v := 61) hx hb d_MO_other_30 (by decide) ?_
          refine lv_icmp_ne (tgt := 39) hx hb d_MO_other_32 (by decide) (fun q32 => ?_) (fun q32 => ?_)
          · refine lv_iconst (v := 0) hx hb d_MO_other_39 (by decide) ?_
            exact J40 (a1 &&& (15 : Int32)) false _ _ _ w (lv_sub hl [0, 1, 2] rfl) (by rw [← e0, f_MO_other, if_neg q8, if_neg q14, if_neg q20, if_neg q26, if_neg q32])
          · exact J35 (a1 &&& (15 : Int32)) _ _ _ w (lv_sub hl [0, 1, 2] rfl) (by rw [← e0, f_MO_other, if_neg q8, if_neg q14, if_neg q20, if_neg q26, if_pos q32])
-- MO_branch
def f_MO_branch_c4 (σ51 : MS) (a1 : Bool) (a2 : Int32) (a3 : Bool)  : MS := σ51
def f_MO_branch_c3 (σ46 : MS) (a1 : Bool) (a2 : Int32) (a3 : Bool)  : MS := f_MO_branch_c4 (ms_nextSlot σ46 true) a1 a2 a3 
def f_MO_branch_c2 (σ36 : MS) (a1 : Bool) (a2 : Int32) (a3 : Bool)  : MS := f_MO_branch_c3 (ms_next σ36 ((m_pc σ36) + (4 : Int32))) a1 a2 a3 
def f_MO_branch_36 (σ : MS) (a1 : Bool) (a2 : Int32) (a3 : Bool) (w36_1 : Int32) : MS := f_MO_branch_c2 (ms_target σ w36_1) a1 a2 a3 
def f_MO_branch_20 (σ : MS) (a1 : Bool) (a2 : Int32) (a3 : Bool) : MS := if (zb a1) = 0 then (f_MO_branch_36 σ a1 a2 a3 ((m_pc σ) + (8 : Int32))) else (f_MO_branch_36 σ a1 a2 a3 a2)
def f_MO_branch_c1 (σ16 : MS) (a1 : Bool) (a2 : Int32) (a3 : Bool)  : MS := σ16
def f_MO_branch (σ : MS) (a1 : Bool) (a2 : Int32) (a3 : Bool) : MS := if (zb a1) = 0 then (if (zb a3) = 0 then (f_MO_branch_20 σ a1 a2 a3) else (f_MO_branch_c1 (ms_next σ ((m_pc σ) + (8 : Int32))) a1 a2 a3 )) else (f_MO_branch_20 σ a1 a2 a3)
theorem d_MO_branch_0 : decode b_MO_branch 0 = .ok (.iload_n 1, 1) := by decide +kernel
theorem d_MO_branch_1 : decode b_MO_branch 1 = .ok (.ifCond .ne 19, 3) := by decide +kernel
theorem d_MO_branch_4 : decode b_MO_branch 4 = .ok (.iload_n 3, 1) := by decide +kernel
theorem d_MO_branch_5 : decode b_MO_branch 5 = .ok (.ifCond .eq 15, 3) := by decide +kernel
theorem d_MO_branch_8 : decode b_MO_branch 8 = .ok (.aload_n 0, 1) := by decide +kernel
theorem d_MO_branch_9 : decode b_MO_branch 9 = .ok (.aload_n 0, 1) := by decide +kernel
theorem d_MO_branch_10 : decode b_MO_branch 10 = .ok (.getfield 40, 3) := by decide +kernel
theorem d_MO_branch_13 : decode b_MO_branch 13 = .ok (.bipush 8, 2) := by decide +kernel
theorem d_MO_branch_15 : decode b_MO_branch 15 = .ok (.iadd, 1) := by decide +kernel
theorem d_MO_branch_16 : decode b_MO_branch 16 = .ok (.putfield 156, 3) := by decide +kernel
theorem d_MO_branch_19 : decode b_MO_branch 19 = .ok (.return_, 1) := by decide +kernel
theorem d_MO_branch_20 : decode b_MO_branch 20 = .ok (.aload_n 0, 1) := by decide +kernel
theorem d_MO_branch_21 : decode b_MO_branch 21 = .ok (.iload_n 1, 1) := by decide +kernel
theorem d_MO_branch_22 : decode b_MO_branch 22 = .ok (.ifCond .eq 7, 3) := by decide +kernel
theorem d_MO_branch_25 : decode b_MO_branch 25 = .ok (.iload_n 2, 1) := by decide +kernel
theorem d_MO_branch_26 : decode b_MO_branch 26 = .ok (.goto 10, 3) := by decide +kernel
theorem d_MO_branch_29 : decode b_MO_branch 29 = .ok (.aload_n 0, 1) := by decide +kernel
theorem d_MO_branch_30 : decode b_MO_branch 30 = .ok (.getfield 40, 3) := by decide +kernel
theorem d_MO_branch_33 : decode b_MO_branch 33 = .ok (.bipush 8, 2) := by decide +kernel
theorem d_MO_branch_35 : decode b_MO_branch 35 = .ok (.iadd, 1) := by decide +kernel
theorem d_MO_branch_36 : decode b_MO_branch 36 = .ok (.putfield 153, 3) := by decide +kernel
theorem d_MO_branch_39 : decode b_MO_branch 39 = .ok (.aload_n 0, 1) := by decide +kernel
theorem d_MO_branch_40 : decode b_MO_branch 40 = .ok (.aload_n 0, 1) := by decide +kernel
theorem d_MO_branch_41 : decode b_MO_branch 41 = .ok (.getfield 40, 3) := by decide +kernel
theorem d_MO_branch_44 : decode b_MO_branch 44 = .ok (.iconst 4, 1) := by decide +kernel
theorem d_MO_branch_45 : decode b_MO_branch 45 = .ok (.iadd, 1) := by decide +kernel
theorem d_MO_branch_46 : decode b_MO_branch 46 = .ok (.putfield 156, 3) := by decide +kernel
theorem d_MO_branch_49 : decode b_MO_branch 49 = .ok (.aload_n 0, 1) := by decide +kernel
theorem d_MO_branch_50 : decode b_MO_branch 50 = .ok (.iconst 1, 1) := by decide +kernel
theorem d_MO_branch_51 : decode b_MO_branch 51 = .ok (.putfield 159, 3) := by decide +kernel
theorem d_MO_branch_54 : decode b_MO_branch 54 = .ok (.return_, 1) := by decide +kernel
set_option maxHeartbeats 4000000 in
set_option maxRecDepth 100000 in
theorem c_MO_branch (l : Launch) (E : Ev) (ad : Nat → Nat) (σ : MS) (a1 : Bool) (a2 : Int32) (a3 : Bool) : rC xCl l E (mW E ad) y_MO_branch b_MO_branch 4 (Option.none : Option Jvm.ClassFile.FieldType) (rmo 0 0) [.ref (ad 0), .int (zb a1), .int a2, .int (zb a3)] σ (zV (f_MO_branch σ a1 a2 a3)) := by
  refine rC.of (by decide) (Nat.le_of_ble_eq_true rfl) ?_
  intro p e s m below meth c A ls hc w hl
  generalize e0 : zV (f_MO_branch σ a1 a2 a3) = Z
  have hc : Cx xCl E A p s m ([.ref (ad 0), .int (zb a1), .int a2, .int (zb a3)] : List Value).toArray meth c b_MO_branch 4 (Option.none : Option Jvm.ClassFile.FieldType) "PageMachineModel" := hc
  have hx := hc.1
  have hb := hc.2.1
  have ho := hc.2.2.2.2.2.1
  have hT := hc.2.2.2.2.2.2.1
  have hl : lv_has ls 4 [(0, .ref (ad 0)), (1, .int (zb a1)), (2, .int a2), (3, .int (zb a3))] := hl
  have J36 : ∀ (w36_1 : Int32) (H : Heap) (locs : List Loc) (ls : Array Slot), Wd xCl E A s.heap H locs (mW E ad σ) → lv_has ls 4 [(0, .ref (ad 0))] → zV (f_MO_branch_36 σ a1 a2 a3 w36_1) = Z → W p l e (rmo 0 0) s m ([.ref (ad 0), .int (zb a1), .int a2, .int (zb a3)] : List Value).toArray below meth c H locs 0 0 (MQ below (rQ xCl (mW E ad) E A Z) ([.ref (ad 0), .int (zb a1), .int a2, .int (zb a3)] : List Value).toArray s 0 0 A) (F0 m 36 ls [.int w36_1, .ref (ad 0)]) := by
    intro w36_1 H locs ls w hl e36
    refine p_MO_target hc w mw_892 d_MO_branch_36 (fun σ36 H locs hs36 w => ?_)
    have e_c2 : zV (f_MO_branch_c2 σ36 a1 a2 a3 ) = Z := by rw [← e36, f_MO_branch_36, hs36]
    refine lv_aload_n hx hb d_MO_branch_39 rfl (lv_at hl 0 rfl) ?_
    refine lv_aload_n hx hb d_MO_branch_40 rfl (lv_at hl 0 rfl) ?_
    refine g_MO_pc hc w mw_891 d_MO_branch_41 ?_
    refine lv_iconst (v := 4) hx hb d_MO_branch_44 (by decide) ?_
    refine lv_iadd hx hb d_MO_branch_45 ?_
    refine p_MO_next hc w mw_909 d_MO_branch_46 (fun σ46 H locs hs46 w => ?_)
    have e_c3 : zV (f_MO_branch_c3 σ46 a1 a2 a3 ) = Z := by rw [← e_c2, f_MO_branch_c2, hs46]
    refine lv_aload_n hx hb d_MO_branch_49 rfl (lv_at hl 0 rfl) ?_
    refine lv_iconst (v := 1) hx hb d_MO_branch_50 (by decide) ?_
    refine p_MO_nextSlot (v := true) hc w mw_910 d_MO_branch_51 (fun σ51 H locs hs51 w => ?_)
    have e_c4 : zV (f_MO_branch_c4 σ51 a1 a2 a3 ) = Z := by rw [← e_c3, f_MO_branch_c3, hs51]
    exact rt_v hc w d_MO_branch_54 (by rw [← e_c4, f_MO_branch_c4] <;> rfl)
  have J20 : ∀ (H : Heap) (locs : List Loc) (ls : Array Slot), Wd xCl E A s.heap H locs (mW E ad σ) → lv_has ls 4 [(0, .ref (ad 0)), (1, .int (zb a1)), (2, .int a2)] → zV (f_MO_branch_20 σ a1 a2 a3) = Z → W p l e (rmo 0 0) s m ([.ref (ad 0), .int (zb a1), .int a2, .int (zb a3)] : List Value).toArray below meth c H locs 0 0 (MQ below (rQ xCl (mW E ad) E A Z) ([.ref (ad 0), .int (zb a1), .int a2, .int (zb a3)] : List Value).toArray s 0 0 A) (F0 m 20 ls []) := by
    intro  H locs ls w hl e20
    refine lv_aload_n hx hb d_MO_branch_20 rfl (lv_at hl 0 rfl) ?_
    refine lv_iload_n hx hb d_MO_branch_21 rfl (lv_at hl 1 rfl) ?_
    refine lv_if_eq (tgt := 29) hx hb d_MO_branch_22 (by decide) (fun q22 => ?_) (fun q22 => ?_)
    · refine lv_aload_n hx hb d_MO_branch_29 rfl (lv_at hl 0 rfl) ?_
      refine g_MO_pc hc w mw_891 d_MO_branch_30 ?_
      refine lv_bipush (v := 8) hx hb d_MO_branch_33 (by decide) ?_
      refine lv_iadd hx hb d_MO_branch_35 ?_
      exact J36 ((m_pc σ) + (8 : Int32)) _ _ _ w (lv_sub hl [0] rfl) (by rw [← e20, f_MO_branch_20, if_pos q22])
    · refine lv_iload_n hx hb d_MO_branch_25 rfl (lv_at hl 2 rfl) ?_
      refine lv_goto (tgt := 36) hx hb d_MO_branch_26 (by decide) ?_
      exact J36 a2 _ _ _ w (lv_sub hl [0] rfl) (by rw [← e20, f_MO_branch_20, if_neg q22])
  refine lv_iload_n hx hb d_MO_branch_0 rfl (lv_at hl 1 rfl) ?_
  refine lv_if_ne (tgt := 20) hx hb d_MO_branch_1 (by decide) (fun q1 => ?_) (fun q1 => ?_)
  · exact J20  _ _ _ w (lv_sub hl [0, 1, 2] rfl) (by rw [← e0, f_MO_branch, if_neg q1])
  · refine lv_iload_n hx hb d_MO_branch_4 rfl (lv_at hl 3 rfl) ?_
    refine lv_if_eq (tgt := 20) hx hb d_MO_branch_5 (by decide) (fun q5 => ?_) (fun q5 => ?_)
    · exact J20  _ _ _ w (lv_sub hl [0, 1, 2] rfl) (by rw [← e0, f_MO_branch, if_pos q1, if_pos q5])
    · refine lv_aload_n hx hb d_MO_branch_8 rfl (lv_at hl 0 rfl) ?_
      refine lv_aload_n hx hb d_MO_branch_9 rfl (lv_at hl 0 rfl) ?_
      refine g_MO_pc hc w mw_891 d_MO_branch_10 ?_
      refine lv_bipush (v := 8) hx hb d_MO_branch_13 (by decide) ?_
      refine lv_iadd hx hb d_MO_branch_15 ?_
      refine p_MO_next hc w mw_909 d_MO_branch_16 (fun σ16 H locs hs16 w => ?_)
      have e_c1 : zV (f_MO_branch_c1 σ16 a1 a2 a3 ) = Z := by rw [← e0, f_MO_branch, if_pos q1, if_neg q5, hs16]
      exact rt_v hc w d_MO_branch_19 (by rw [← e_c1, f_MO_branch_c1] <;> rfl)
-- MO_shift
def f_MO_shift_c2 (z52 : MS) (a1 : Int32) (a2 : Int32) (a3 : Int32) (a4 : Int32)  : MS := z52
def f_MO_shift_52 (σ : MS) (a1 : Int32) (a2 : Int32) (a3 : Int32) (a4 : Int32) (w52_2 : Int32) : MS := f_MO_shift_c2 (f_MO_put σ a2 w52_2) a1 a2 a3 a4 
def f_MO_shift_c1 (z14 : MS × Int32) (a1 : Int32) (a2 : Int32) (a3 : Int32) (a4 : Int32)  : MS := z14.1
def f_MO_shift (σ : MS) (a1 : Int32) (a2 : Int32) (a3 : Int32) (a4 : Int32) : MS := if (a1 &&& (3 : Int32)) = (1 : Int32) then (f_MO_shift_c1 (f_MO_raise σ (10 : Int32)) a1 a2 a3 a4 ) else (if (a1 &&& (3 : Int32)) = 0 then (f_MO_shift_52 σ a1 a2 a3 a4 (a4 <<< (a3 &&& 31))) else (if (a1 &&& (3 : Int32)) = (2 : Int32) then (f_MO_shift_52 σ a1 a2 a3 a4 ((Int32.toUInt32 a4 >>> (Int32.toUInt32 a3 &&& Int32.toUInt32 31)).toInt32)) else (f_MO_shift_52 σ a1 a2 a3 a4 (a4 >>> (a3 &&& 31)))))
theorem d_MO_shift_0 : decode b_MO_shift 0 = .ok (.iload_n 1, 1) := by decide +kernel
theorem d_MO_shift_1 : decode b_MO_shift 1 = .ok (.iconst 3, 1) := by decide +kernel
theorem d_MO_shift_2 : decode b_MO_shift 2 = .ok (.iand, 1) := by decide +kernel
theorem d_MO_shift_3 : decode b_MO_shift 3 = .ok (.istore 5, 2) := by decide +kernel
theorem d_MO_shift_5 : decode b_MO_shift 5 = .ok (.iload 5, 2) := by decide +kernel
theorem d_MO_shift_7 : decode b_MO_shift 7 = .ok (.iconst 1, 1) := by decide +kernel
theorem d_MO_shift_8 : decode b_MO_shift 8 = .ok (.if_icmp .ne 13, 3) := by decide +kernel
theorem d_MO_shift_11 : decode b_MO_shift 11 = .ok (.aload_n 0, 1) := by decide +kernel
theorem d_MO_shift_12 : decode b_MO_shift 12 = .ok (.bipush 10, 2) := by decide +kernel
theorem d_MO_shift_14 : decode b_MO_shift 14 = .ok (.invokevirtual 196, 3) := by decide +kernel
theorem d_MO_shift_17 : decode b_MO_shift 17 = .ok (.pop, 1) := by decide +kernel
theorem d_MO_shift_18 : decode b_MO_shift 18 = .ok (.goto 37, 3) := by decide +kernel
theorem d_MO_shift_21 : decode b_MO_shift 21 = .ok (.aload_n 0, 1) := by decide +kernel
theorem d_MO_shift_22 : decode b_MO_shift 22 = .ok (.iload_n 2, 1) := by decide +kernel
theorem d_MO_shift_23 : decode b_MO_shift 23 = .ok (.iload 5, 2) := by decide +kernel
theorem d_MO_shift_25 : decode b_MO_shift 25 = .ok (.ifCond .ne 10, 3) := by decide +kernel
theorem d_MO_shift_28 : decode b_MO_shift 28 = .ok (.iload 4, 2) := by decide +kernel
theorem d_MO_shift_30 : decode b_MO_shift 30 = .ok (.iload_n 3, 1) := by decide +kernel
theorem d_MO_shift_31 : decode b_MO_shift 31 = .ok (.ishl, 1) := by decide +kernel
theorem d_MO_shift_32 : decode b_MO_shift 32 = .ok (.goto 20, 3) := by decide +kernel
theorem d_MO_shift_35 : decode b_MO_shift 35 = .ok (.iload 5, 2) := by decide +kernel
theorem d_MO_shift_37 : decode b_MO_shift 37 = .ok (.iconst 2, 1) := by decide +kernel
theorem d_MO_shift_38 : decode b_MO_shift 38 = .ok (.if_icmp .ne 10, 3) := by decide +kernel
theorem d_MO_shift_41 : decode b_MO_shift 41 = .ok (.iload 4, 2) := by decide +kernel
theorem d_MO_shift_43 : decode b_MO_shift 43 = .ok (.iload_n 3, 1) := by decide +kernel
theorem d_MO_shift_44 : decode b_MO_shift 44 = .ok (.iushr, 1) := by decide +kernel
theorem d_MO_shift_45 : decode b_MO_shift 45 = .ok (.goto 7, 3) := by decide +kernel
theorem d_MO_shift_48 : decode b_MO_shift 48 = .ok (.iload 4, 2) := by decide +kernel
theorem d_MO_shift_50 : decode b_MO_shift 50 = .ok (.iload_n 3, 1) := by decide +kernel
theorem d_MO_shift_51 : decode b_MO_shift 51 = .ok (.ishr, 1) := by decide +kernel
theorem d_MO_shift_52 : decode b_MO_shift 52 = .ok (.invokevirtual 78, 3) := by decide +kernel
theorem d_MO_shift_55 : decode b_MO_shift 55 = .ok (.return_, 1) := by decide +kernel
set_option maxHeartbeats 4000000 in
set_option maxRecDepth 100000 in
theorem c_MO_shift (l : Launch) (E : Ev) (ad : Nat → Nat) (σ : MS) (a1 : Int32) (a2 : Int32) (a3 : Int32) (a4 : Int32) (h1 : vp_in a2 32) : rC xCl l E (mW E ad) y_MO_shift b_MO_shift 6 (Option.none : Option Jvm.ClassFile.FieldType) (rmo 1 22) [.ref (ad 0), .int a1, .int a2, .int a3, .int a4] σ (zV (f_MO_shift σ a1 a2 a3 a4)) := by
  refine rC.of (by decide) (Nat.le_of_ble_eq_true rfl) ?_
  intro p e s m below meth c A ls hc w hl
  generalize e0 : zV (f_MO_shift σ a1 a2 a3 a4) = Z
  have hc : Cx xCl E A p s m ([.ref (ad 0), .int a1, .int a2, .int a3, .int a4] : List Value).toArray meth c b_MO_shift 6 (Option.none : Option Jvm.ClassFile.FieldType) "PageMachineModel" := hc
  have hx := hc.1
  have hb := hc.2.1
  have ho := hc.2.2.2.2.2.1
  have hT := hc.2.2.2.2.2.2.1
  have hl : lv_has ls 6 [(0, .ref (ad 0)), (1, .int a1), (2, .int a2), (3, .int a3), (4, .int a4)] := hl
  have J52 : ∀ (w52_2 : Int32) (H : Heap) (locs : List Loc) (ls : Array Slot), Wd xCl E A s.heap H locs (mW E ad σ) → lv_has ls 6 [] → zV (f_MO_shift_52 σ a1 a2 a3 a4 w52_2) = Z → W p l e (rmo 1 22) s m ([.ref (ad 0), .int a1, .int a2, .int a3, .int a4] : List Value).toArray below meth c H locs 0 0 (MQ below (rQ xCl (mW E ad) E A Z) ([.ref (ad 0), .int a1, .int a2, .int a3, .int a4] : List Value).toArray s 0 0 A) (F0 m 52 ls [.int w52_2, .int a2, .ref (ad 0)]) := by
    intro w52_2 H locs ls w hl e52
    refine cVV (rest := []) hc w (c_MO_put l E ad σ a2 w52_2 h1) kv_MO_put mw_1000 0 rfl rfl ⟨Nat.le_of_ble_eq_true rfl, Nat.le_of_ble_eq_true rfl⟩ hl.1 rfl (Nat.le_of_ble_eq_true rfl) ⟨Nat.zero_le _, Nat.zero_le _⟩ d_MO_shift_52 (fun z52 H locs hs52 w => ?_)
    have e_c2 : zV (f_MO_shift_c2 z52 a1 a2 a3 a4 ) = Z := by rw [← e52, f_MO_shift_52, hs52]
    exact rt_v hc w d_MO_shift_55 (by rw [← e_c2, f_MO_shift_c2] <;> rfl)
  refine lv_iload_n hx hb d_MO_shift_0 rfl (lv_at hl 1 rfl) ?_
  refine lv_iconst (v := 3) hx hb d_MO_shift_1 (by decide) ?_
  refine lv_iand hx hb d_MO_shift_2 ?_
  refine lv_istore (lv' := [(5, .int (a1 &&& (3 : Int32))), (0, .ref (ad 0)), (1, .int a1), (2, .int a2), (3, .int a3), (4, .int a4)]) hx hb d_MO_shift_3 hl (by decide) rfl (fun ls hl => ?_)
  refine lv_iload hx hb d_MO_shift_5 (lv_at hl 0 rfl) ?_
  refine lv_iconst (v := 1) hx hb d_MO_shift_7 (by decide) ?_
  refine lv_icmp_ne (tgt := 21) hx hb d_MO_shift_8 (by decide) (fun q8 => ?_) (fun q8 => ?_)
  · refine lv_aload_n hx hb d_MO_shift_21 rfl (lv_at hl 1 rfl) ?_
    refine lv_iload_n hx hb d_MO_shift_22 rfl (lv_at hl 3 rfl) ?_
    refine lv_iload hx hb d_MO_shift_23 (lv_at hl 0 rfl) ?_
    refine lv_if_ne (tgt := 35) hx hb d_MO_shift_25 (by decide) (fun q25 => ?_) (fun q25 => ?_)
    · refine lv_iload hx hb d_MO_shift_35 (lv_at hl 0 rfl) ?_
      refine lv_iconst (v := 2) hx hb d_MO_shift_37 (by decide) ?_
      refine lv_icmp_ne (tgt := 48) hx hb d_MO_shift_38 (by decide) (fun q38 => ?_) (fun q38 => ?_)
      · refine lv_iload hx hb d_MO_shift_48 (lv_at hl 5 rfl) ?_
        refine lv_iload_n hx hb d_MO_shift_50 rfl (lv_at hl 4 rfl) ?_
        refine lv_ishr hx hb d_MO_shift_51 ?_
        exact J52 (a4 >>> (a3 &&& 31)) _ _ _ w (lv_sub hl [] rfl) (by rw [← e0, f_MO_shift, if_neg q8, if_neg q25, if_neg q38])
      · refine lv_iload hx hb d_MO_shift_41 (lv_at hl 5 rfl) ?_
        refine lv_iload_n hx hb d_MO_shift_43 rfl (lv_at hl 4 rfl) ?_
        refine lv_iushr hx hb d_MO_shift_44 rfl ?_
        refine lv_goto (tgt := 52) hx hb d_MO_shift_45 (by decide) ?_
        exact J52 ((Int32.toUInt32 a4 >>> (Int32.toUInt32 a3 &&& Int32.toUInt32 31)).toInt32) _ _ _ w (lv_sub hl [] rfl) (by rw [← e0, f_MO_shift, if_neg q8, if_neg q25, if_pos q38])
    · refine lv_iload hx hb d_MO_shift_28 (lv_at hl 5 rfl) ?_
      refine lv_iload_n hx hb d_MO_shift_30 rfl (lv_at hl 4 rfl) ?_
      refine lv_ishl hx hb d_MO_shift_31 ?_
      refine lv_goto (tgt := 52) hx hb d_MO_shift_32 (by decide) ?_
      exact J52 (a4 <<< (a3 &&& 31)) _ _ _ w (lv_sub hl [] rfl) (by rw [← e0, f_MO_shift, if_neg q8, if_pos q25])
  · refine lv_aload_n hx hb d_MO_shift_11 rfl (lv_at hl 1 rfl) ?_
    refine lv_bipush (v := 10) hx hb d_MO_shift_12 (by decide) ?_
    refine cVI (rest := []) hc w (c_MO_raise l E ad σ (10 : Int32)) kv_MO_raise mw_1079 0 rfl rfl ⟨Nat.le_of_ble_eq_true rfl, Nat.le_of_ble_eq_true rfl⟩ hl.1 rfl (Nat.le_of_ble_eq_true rfl) ⟨Nat.zero_le _, Nat.zero_le _⟩ d_MO_shift_14 (fun z14 H locs hs14 w => ?_)
    have e_c1 : zV (f_MO_shift_c1 z14 a1 a2 a3 a4 ) = Z := by rw [← e0, f_MO_shift, if_pos q8, hs14]
    refine lv_pop hx hb d_MO_shift_17 rfl ?_
    refine lv_goto (tgt := 55) hx hb d_MO_shift_18 (by decide) ?_
    exact rt_v hc w d_MO_shift_55 (by rw [← e_c1, f_MO_shift_c1] <;> rfl)
-- MO_moves
def f_MO_moves_c6 (z39 : MS) (a1 : Int32) (a2 : Int32) (a3 : Int32) (a4 : Int32)  : MS := z39
def f_MO_moves_33 (σ : MS) (a1 : Int32) (a2 : Int32) (a3 : Int32) (a4 : Int32) (w33_0 : Bool) (w33_1 : Bool) : MS := if (zb w33_0) = (zb w33_1) then (f_MO_moves_c6 (f_MO_put σ a2 a3) a1 a2 a3 a4 ) else (σ)
def f_MO_moves_22 (σ : MS) (a1 : Int32) (a2 : Int32) (a3 : Int32) (a4 : Int32) (w22_0 : Bool) : MS := if a1 = (10 : Int32) then (f_MO_moves_33 σ a1 a2 a3 a4 w22_0 true) else (f_MO_moves_33 σ a1 a2 a3 a4 w22_0 false)
def f_MO_moves_12 (σ : MS) (a1 : Int32) (a2 : Int32) (a3 : Int32) (a4 : Int32) : MS := if a4 = 0 then (f_MO_moves_22 σ a1 a2 a3 a4 true) else (f_MO_moves_22 σ a1 a2 a3 a4 false)
def f_MO_moves_c5 (z71 : MS × Int32) (a1 : Int32) (a2 : Int32) (a3 : Int32) (a4 : Int32)  : MS := z71.1
def f_MO_moves_71 (σ : MS) (a1 : Int32) (a2 : Int32) (a3 : Int32) (a4 : Int32) (w71_1 : Int32) : MS := f_MO_moves_c5 (f_MO_raise σ w71_1) a1 a2 a3 a4 
def f_MO_moves_57 (σ : MS) (a1 : Int32) (a2 : Int32) (a3 : Int32) (a4 : Int32) : MS := if a1 = (12 : Int32) then (f_MO_moves_71 σ a1 a2 a3 a4 (8 : Int32)) else (f_MO_moves_71 σ a1 a2 a3 a4 (9 : Int32))
def f_MO_moves_c4 (z109 : MS) (a1 : Int32) (a2 : Int32) (a3 : Int32) (a4 : Int32)  : MS := z109
def f_MO_moves_109 (σ : MS) (a1 : Int32) (a2 : Int32) (a3 : Int32) (a4 : Int32) (w109_2 : Int32) : MS := f_MO_moves_c4 (f_MO_put σ a2 w109_2) a1 a2 a3 a4 
def f_MO_moves_90 (σ : MS) (a1 : Int32) (a2 : Int32) (a3 : Int32) (a4 : Int32) : MS := if a1 = (16 : Int32) then (f_MO_moves_109 σ a1 a2 a3 a4 (m_hi σ)) else (f_MO_moves_109 σ a1 a2 a3 a4 (m_lo σ))
def f_MO_moves_c3 (σ123 : MS) (a1 : Int32) (a2 : Int32) (a3 : Int32) (a4 : Int32)  : MS := σ123
def f_MO_moves_c2 (σ137 : MS) (a1 : Int32) (a2 : Int32) (a3 : Int32) (a4 : Int32)  : MS := σ137
def f_MO_moves_c1 (z152 : MS × Int32) (a1 : Int32) (a2 : Int32) (a3 : Int32) (a4 : Int32)  : MS := z152.1
def f_MO_moves (σ : MS) (a1 : Int32) (a2 : Int32) (a3 : Int32) (a4 : Int32) : MS := if a1 = (10 : Int32) then (f_MO_moves_12 σ a1 a2 a3 a4) else (if a1 = (11 : Int32) then (f_MO_moves_12 σ a1 a2 a3 a4) else (if a1 = (12 : Int32) then (f_MO_moves_57 σ a1 a2 a3 a4) else (if a1 = (13 : Int32) then (f_MO_moves_57 σ a1 a2 a3 a4) else (if a1 = (16 : Int32) then (f_MO_moves_90 σ a1 a2 a3 a4) else (if a1 = (18 : Int32) then (f_MO_moves_90 σ a1 a2 a3 a4) else (if a1 = (17 : Int32) then (f_MO_moves_c3 (ms_hi σ a3) a1 a2 a3 a4 ) else (if a1 = (19 : Int32) then (f_MO_moves_c2 (ms_lo σ a3) a1 a2 a3 a4 ) else (if a1 = (15 : Int32) then (σ) else (f_MO_moves_c1 (f_MO_raise σ (10 : Int32)) a1 a2 a3 a4 )))))))))
theorem d_MO_moves_0 : decode b_MO_moves 0 = .ok (.iload_n 1, 1) := by decide +kernel
theorem d_MO_moves_1 : decode b_MO_moves 1 = .ok (.bipush 10, 2) := by decide +kernel
theorem d_MO_moves_3 : decode b_MO_moves 3 = .ok (.if_icmp .eq 9, 3) := by decide +kernel
theorem d_MO_moves_6 : decode b_MO_moves 6 = .ok (.iload_n 1, 1) := by decide +kernel
theorem d_MO_moves_7 : decode b_MO_moves 7 = .ok (.bipush 11, 2) := by decide +kernel
theorem d_MO_moves_9 : decode b_MO_moves 9 = .ok (.if_icmp .ne 36, 3) := by decide +kernel
theorem d_MO_moves_12 : decode b_MO_moves 12 = .ok (.iload 4, 2) := by decide +kernel
theorem d_MO_moves_14 : decode b_MO_moves 14 = .ok (.ifCond .ne 7, 3) := by decide +kernel
theorem d_MO_moves_17 : decode b_MO_moves 17 = .ok (.iconst 1, 1) := by decide +kernel
theorem d_MO_moves_18 : decode b_MO_moves 18 = .ok (.goto 4, 3) := by decide +kernel
theorem d_MO_moves_21 : decode b_MO_moves 21 = .ok (.iconst 0, 1) := by decide +kernel
theorem d_MO_moves_22 : decode b_MO_moves 22 = .ok (.iload_n 1, 1) := by decide +kernel
theorem d_MO_moves_23 : decode b_MO_moves 23 = .ok (.bipush 10, 2) := by decide +kernel
theorem d_MO_moves_25 : decode b_MO_moves 25 = .ok (.if_icmp .ne 7, 3) := by decide +kernel
theorem d_MO_moves_28 : decode b_MO_moves 28 = .ok (.iconst 1, 1) := by decide +kernel
theorem d_MO_moves_29 : decode b_MO_moves 29 = .ok (.goto 4, 3) := by decide +kernel
theorem d_MO_moves_32 : decode b_MO_moves 32 = .ok (.iconst 0, 1) := by decide +kernel
theorem d_MO_moves_33 : decode b_MO_moves 33 = .ok (.if_icmp .ne 123, 3) := by decide +kernel
theorem d_MO_moves_36 : decode b_MO_moves 36 = .ok (.aload_n 0, 1) := by decide +kernel
theorem d_MO_moves_37 : decode b_MO_moves 37 = .ok (.iload_n 2, 1) := by decide +kernel
theorem d_MO_moves_38 : decode b_MO_moves 38 = .ok (.iload_n 3, 1) := by decide +kernel
theorem d_MO_moves_39 : decode b_MO_moves 39 = .ok (.invokevirtual 78, 3) := by decide +kernel
theorem d_MO_moves_42 : decode b_MO_moves 42 = .ok (.goto 114, 3) := by decide +kernel
theorem d_MO_moves_45 : decode b_MO_moves 45 = .ok (.iload_n 1, 1) := by decide +kernel
theorem d_MO_moves_46 : decode b_MO_moves 46 = .ok (.bipush 12, 2) := by decide +kernel
theorem d_MO_moves_48 : decode b_MO_moves 48 = .ok (.if_icmp .eq 9, 3) := by decide +kernel
theorem d_MO_moves_51 : decode b_MO_moves 51 = .ok (.iload_n 1, 1) := by decide +kernel
theorem d_MO_moves_52 : decode b_MO_moves 52 = .ok (.bipush 13, 2) := by decide +kernel
theorem d_MO_moves_54 : decode b_MO_moves 54 = .ok (.if_icmp .ne 24, 3) := by decide +kernel
theorem d_MO_moves_57 : decode b_MO_moves 57 = .ok (.aload_n 0, 1) := by decide +kernel
theorem d_MO_moves_58 : decode b_MO_moves 58 = .ok (.iload_n 1, 1) := by decide +kernel
theorem d_MO_moves_59 : decode b_MO_moves 59 = .ok (.bipush 12, 2) := by decide +kernel
theorem d_MO_moves_61 : decode b_MO_moves 61 = .ok (.if_icmp .ne 8, 3) := by decide +kernel
theorem d_MO_moves_64 : decode b_MO_moves 64 = .ok (.bipush 8, 2) := by decide +kernel
theorem d_MO_moves_66 : decode b_MO_moves 66 = .ok (.goto 5, 3) := by decide +kernel
theorem d_MO_moves_69 : decode b_MO_moves 69 = .ok (.bipush 9, 2) := by decide +kernel
theorem d_MO_moves_71 : decode b_MO_moves 71 = .ok (.invokevirtual 196, 3) := by decide +kernel
theorem d_MO_moves_74 : decode b_MO_moves 74 = .ok (.pop, 1) := by decide +kernel
theorem d_MO_moves_75 : decode b_MO_moves 75 = .ok (.goto 81, 3) := by decide +kernel
theorem d_MO_moves_78 : decode b_MO_moves 78 = .ok (.iload_n 1, 1) := by decide +kernel
theorem d_MO_moves_79 : decode b_MO_moves 79 = .ok (.bipush 16, 2) := by decide +kernel
theorem d_MO_moves_81 : decode b_MO_moves 81 = .ok (.if_icmp .eq 9, 3) := by decide +kernel
theorem d_MO_moves_84 : decode b_MO_moves 84 = .ok (.iload_n 1, 1) := by decide +kernel
theorem d_MO_moves_85 : decode b_MO_moves 85 = .ok (.bipush 18, 2) := by decide +kernel
theorem d_MO_moves_87 : decode b_MO_moves 87 = .ok (.if_icmp .ne 28, 3) := by decide +kernel
theorem d_MO_moves_90 : decode b_MO_moves 90 = .ok (.aload_n 0, 1) := by decide +kernel
theorem d_MO_moves_91 : decode b_MO_moves 91 = .ok (.iload_n 2, 1) := by decide +kernel
theorem d_MO_moves_92 : decode b_MO_moves 92 = .ok (.iload_n 1, 1) := by decide +kernel
theorem d_MO_moves_93 : decode b_MO_moves 93 = .ok (.bipush 16, 2) := by decide +kernel
theorem d_MO_moves_95 : decode b_MO_moves 95 = .ok (.if_icmp .ne 10, 3) := by decide +kernel
theorem d_MO_moves_98 : decode b_MO_moves 98 = .ok (.aload_n 0, 1) := by decide +kernel
theorem d_MO_moves_99 : decode b_MO_moves 99 = .ok (.getfield 72, 3) := by decide +kernel
theorem d_MO_moves_102 : decode b_MO_moves 102 = .ok (.goto 7, 3) := by decide +kernel
theorem d_MO_moves_105 : decode b_MO_moves 105 = .ok (.aload_n 0, 1) := by decide +kernel
theorem d_MO_moves_106 : decode b_MO_moves 106 = .ok (.getfield 75, 3) := by decide +kernel
theorem d_MO_moves_109 : decode b_MO_moves 109 = .ok (.invokevirtual 78, 3) := by decide +kernel
theorem d_MO_moves_112 : decode b_MO_moves 112 = .ok (.goto 44, 3) := by decide +kernel
theorem d_MO_moves_115 : decode b_MO_moves 115 = .ok (.iload_n 1, 1) := by decide +kernel
theorem d_MO_moves_116 : decode b_MO_moves 116 = .ok (.bipush 17, 2) := by decide +kernel
theorem d_MO_moves_118 : decode b_MO_moves 118 = .ok (.if_icmp .ne 11, 3) := by decide +kernel
theorem d_MO_moves_121 : decode b_MO_moves 121 = .ok (.aload_n 0, 1) := by decide +kernel
theorem d_MO_moves_122 : decode b_MO_moves 122 = .ok (.iload_n 3, 1) := by decide +kernel
theorem d_MO_moves_123 : decode b_MO_moves 123 = .ok (.putfield 72, 3) := by decide +kernel
theorem d_MO_moves_126 : decode b_MO_moves 126 = .ok (.goto 30, 3) := by decide +kernel
theorem d_MO_moves_129 : decode b_MO_moves 129 = .ok (.iload_n 1, 1) := by decide +kernel
theorem d_MO_moves_130 : decode b_MO_moves 130 = .ok (.bipush 19, 2) := by decide +kernel
theorem d_MO_moves_132 : decode b_MO_moves 132 = .ok (.if_icmp .ne 11, 3) := by decide +kernel
theorem d_MO_moves_135 : decode b_MO_moves 135 = .ok (.aload_n 0, 1) := by decide +kernel
theorem d_MO_moves_136 : decode b_MO_moves 136 = .ok (.iload_n 3, 1) := by decide +kernel
theorem d_MO_moves_137 : decode b_MO_moves 137 = .ok (.putfield 75, 3) := by decide +kernel
theorem d_MO_moves_140 : decode b_MO_moves 140 = .ok (.goto 16, 3) := by decide +kernel
theorem d_MO_moves_143 : decode b_MO_moves 143 = .ok (.iload_n 1, 1) := by decide +kernel
theorem d_MO_moves_144 : decode b_MO_moves 144 = .ok (.bipush 15, 2) := by decide +kernel
theorem d_MO_moves_146 : decode b_MO_moves 146 = .ok (.if_icmp .eq 10, 3) := by decide +kernel
theorem d_MO_moves_149 : decode b_MO_moves 149 = .ok (.aload_n 0, 1) := by decide +kernel
theorem d_MO_moves_150 : decode b_MO_moves 150 = .ok (.bipush 10, 2) := by decide +kernel
theorem d_MO_moves_152 : decode b_MO_moves 152 = .ok (.invokevirtual 196, 3) := by decide +kernel
theorem d_MO_moves_155 : decode b_MO_moves 155 = .ok (.pop, 1) := by decide +kernel
theorem d_MO_moves_156 : decode b_MO_moves 156 = .ok (.return_, 1) := by decide +kernel
set_option maxHeartbeats 4000000 in
set_option maxRecDepth 100000 in
theorem c_MO_moves (l : Launch) (E : Ev) (ad : Nat → Nat) (σ : MS) (a1 : Int32) (a2 : Int32) (a3 : Int32) (a4 : Int32) (h1 : vp_in a2 32) : rC xCl l E (mW E ad) y_MO_moves b_MO_moves 5 (Option.none : Option Jvm.ClassFile.FieldType) (rmo 1 22) [.ref (ad 0), .int a1, .int a2, .int a3, .int a4] σ (zV (f_MO_moves σ a1 a2 a3 a4)) := by
  refine rC.of (by decide) (Nat.le_of_ble_eq_true rfl) ?_
  intro p e s m below meth c A ls hc w hl
  generalize e0 : zV (f_MO_moves σ a1 a2 a3 a4) = Z
  have hc : Cx xCl E A p s m ([.ref (ad 0), .int a1, .int a2, .int a3, .int a4] : List Value).toArray meth c b_MO_moves 5 (Option.none : Option Jvm.ClassFile.FieldType) "PageMachineModel" := hc
  have hx := hc.1
  have hb := hc.2.1
  have ho := hc.2.2.2.2.2.1
  have hT := hc.2.2.2.2.2.2.1
  have hl : lv_has ls 5 [(0, .ref (ad 0)), (1, .int a1), (2, .int a2), (3, .int a3), (4, .int a4)] := hl
  have J33 : ∀ (w33_0 : Bool) (w33_1 : Bool) (H : Heap) (locs : List Loc) (ls : Array Slot), Wd xCl E A s.heap H locs (mW E ad σ) → lv_has ls 5 [(0, .ref (ad 0)), (2, .int a2), (3, .int a3)] → zV (f_MO_moves_33 σ a1 a2 a3 a4 w33_0 w33_1) = Z → W p l e (rmo 1 22) s m ([.ref (ad 0), .int a1, .int a2, .int a3, .int a4] : List Value).toArray below meth c H locs 0 0 (MQ below (rQ xCl (mW E ad) E A Z) ([.ref (ad 0), .int a1, .int a2, .int a3, .int a4] : List Value).toArray s 0 0 A) (F0 m 33 ls [.int (zb w33_1), .int (zb w33_0)]) := by
    intro w33_0 w33_1 H locs ls w hl e33
    refine lv_icmp_ne (tgt := 156) hx hb d_MO_moves_33 (by decide) (fun q33 => ?_) (fun q33 => ?_)
    · exact rt_v hc w d_MO_moves_156 (by rw [← e33, f_MO_moves_33, if_neg q33] <;> rfl)
    · refine lv_aload_n hx hb d_MO_moves_36 rfl (lv_at hl 0 rfl) ?_
      refine lv_iload_n hx hb d_MO_moves_37 rfl (lv_at hl 1 rfl) ?_
      refine lv_iload_n hx hb d_MO_moves_38 rfl (lv_at hl 2 rfl) ?_
      refine cVV (rest := []) hc w (c_MO_put l E ad σ a2 a3 h1) kv_MO_put mw_1000 0 rfl rfl ⟨Nat.le_of_ble_eq_true rfl, Nat.le_of_ble_eq_true rfl⟩ hl.1 rfl (Nat.le_of_ble_eq_true rfl) ⟨Nat.zero_le _, Nat.zero_le _⟩ d_MO_moves_39 (fun z39 H locs hs39 w => ?_)
      have e_c6 : zV (f_MO_moves_c6 z39 a1 a2 a3 a4 ) = Z := by rw [← e33, f_MO_moves_33, if_pos q33, hs39]
      refine lv_goto (tgt := 156) hx hb d_MO_moves_42 (by decide) ?_
      exact rt_v hc w d_MO_moves_156 (by rw [← e_c6, f_MO_moves_c6] <;> rfl)
  have J22 : ∀ (w22_0 : Bool) (H : Heap) (locs : List Loc) (ls : Array Slot), Wd xCl E A s.heap H locs (mW E ad σ) → lv_has ls 5 [(0, .ref (ad 0)), (1, .int a1), (2, .int a2), (3, .int a3)] → zV (f_MO_moves_22 σ a1 a2 a3 a4 w22_0) = Z → W p l e (rmo 1 22) s m ([.ref (ad 0), .int a1, .int a2, .int a3, .int a4] : List Value).toArray below meth c H locs 0 0 (MQ below (rQ xCl (mW E ad) E A Z) ([.ref (ad 0), .int a1, .int a2, .int a3, .int a4] : List Value).toArray s 0 0 A) (F0 m 22 ls [.int (zb w22_0)]) := by
    intro w22_0 H locs ls w hl e22
    refine lv_iload_n hx hb d_MO_moves_22 rfl (lv_at hl 1 rfl) ?_
    refine lv_bipush (v := 10) hx hb d_MO_moves_23 (by decide) ?_
    refine lv_icmp_ne (tgt := 32) hx hb d_MO_moves_25 (by decide) (fun q25 => ?_) (fun q25 => ?_)
    · refine lv_iconst (v := 0) hx hb d_MO_moves_32 (by decide) ?_
      exact J33 w22_0 false _ _ _ w (lv_sub hl [0, 2, 3] rfl) (by rw [← e22, f_MO_moves_22, if_neg q25])
    · refine lv_iconst (v := 1) hx hb d_MO_moves_28 (by decide) ?_
      refine lv_goto (tgt := 33) hx hb d_MO_moves_29 (by decide) ?_
      exact J33 w22_0 true _ _ _ w (lv_sub hl [0, 2, 3] rfl) (by rw [← e22, f_MO_moves_22, if_pos q25])
  have J12 : ∀ (H : Heap) (locs : List Loc) (ls : Array Slot), Wd xCl E A s.heap H locs (mW E ad σ) → lv_has ls 5 [(0, .ref (ad 0)), (1, .int a1), (2, .int a2), (3, .int a3), (4, .int a4)] → zV (f_MO_moves_12 σ a1 a2 a3 a4) = Z → W p l e (rmo 1 22) s m ([.ref (ad 0), .int a1, .int a2, .int a3, .int a4] : List Value).toArray below meth c H locs 0 0 (MQ below (rQ xCl (mW E ad) E A Z) ([.ref (ad 0), .int a1, .int a2, .int a3, .int a4] : List Value).toArray s 0 0 A) (F0 m 12 ls []) := by
    intro  H locs ls w hl e12
    refine lv_iload hx hb d_MO_moves_12 (lv_at hl 4 rfl) ?_
    refine lv_if_ne (tgt := 21) hx hb d_MO_moves_14 (by decide) (fun q14 => ?_) (fun q14 => ?_)
    · refine lv_iconst (v := 0) hx hb d_MO_moves_21 (by decide) ?_
      exact J22 false _ _ _ w (lv_sub hl [0, 1, 2, 3] rfl) (by rw [← e12, f_MO_moves_12, if_neg q14])
    · refine lv_iconst (v := 1) hx hb d_MO_moves_17 (by decide) ?_
      refine lv_goto (tgt := 22) hx hb d_MO_moves_18 (by decide) ?_
      exact J22 true _ _ _ w (lv_sub hl [0, 1, 2, 3] rfl) (by rw [← e12, f_MO_moves_12, if_pos q14])
  have J71 : ∀ (w71_1 : Int32) (H : Heap) (locs : List Loc) (ls : Array Slot), Wd xCl E A s.heap H locs (mW E ad σ) → lv_has ls 5 [] → zV (f_MO_moves_71 σ a1 a2 a3 a4 w71_1) = Z → W p l e (rmo 1 22) s m ([.ref (ad 0), .int a1, .int a2, .int a3, .int a4] : List Value).toArray below meth c H locs 0 0 (MQ below (rQ xCl (mW E ad) E A Z) ([.ref (ad 0), .int a1, .int a2, .int a3, .int a4] : List Value).toArray s 0 0 A) (F0 m 71 ls [.int w71_1, .ref (ad 0)]) := by
    intro w71_1 H locs ls w hl e71
    refine cVI (rest := []) hc w (c_MO_raise l E ad σ w71_1) kv_MO_raise mw_1079 0 rfl rfl ⟨Nat.le_of_ble_eq_true rfl, Nat.le_of_ble_eq_true rfl⟩ hl.1 rfl (Nat.le_of_ble_eq_true rfl) ⟨Nat.zero_le _, Nat.zero_le _⟩ d_MO_moves_71 (fun z71 H locs hs71 w => ?_)
    have e_c5 : zV (f_MO_moves_c5 z71 a1 a2 a3 a4 ) = Z := by rw [← e71, f_MO_moves_71, hs71]
    refine lv_pop hx hb d_MO_moves_74 rfl ?_
    refine lv_goto (tgt := 156) hx hb d_MO_moves_75 (by decide) ?_
    exact rt_v hc w d_MO_moves_156 (by rw [← e_c5, f_MO_moves_c5] <;> rfl)
  have J57 : ∀ (H : Heap) (locs : List Loc) (ls : Array Slot), Wd xCl E A s.heap H locs (mW E ad σ) → lv_has ls 5 [(0, .ref (ad 0)), (1, .int a1)] → zV (f_MO_moves_57 σ a1 a2 a3 a4) = Z → W p l e (rmo 1 22) s m ([.ref (ad 0), .int a1, .int a2, .int a3, .int a4] : List Value).toArray below meth c H locs 0 0 (MQ below (rQ xCl (mW E ad) E A Z) ([.ref (ad 0), .int a1, .int a2, .int a3, .int a4] : List Value).toArray s 0 0 A) (F0 m 57 ls []) := by
    intro  H locs ls w hl e57
    refine lv_aload_n hx hb d_MO_moves_57 rfl (lv_at hl 0 rfl) ?_
    refine lv_iload_n hx hb d_MO_moves_58 rfl (lv_at hl 1 rfl) ?_
    refine lv_bipush (v := 12) hx hb d_MO_moves_59 (by decide) ?_
    refine lv_icmp_ne (tgt := 69) hx hb d_MO_moves_61 (by decide) (fun q61 => ?_) (fun q61 => ?_)
    · refine lv_bipush (v := 9) hx hb d_MO_moves_69 (by decide) ?_
      exact J71 (9 : Int32) _ _ _ w (lv_sub hl [] rfl) (by rw [← e57, f_MO_moves_57, if_neg q61])
    · refine lv_bipush (v := 8) hx hb d_MO_moves_64 (by decide) ?_
      refine lv_goto (tgt := 71) hx hb d_MO_moves_66 (by decide) ?_
      exact J71 (8 : Int32) _ _ _ w (lv_sub hl [] rfl) (by rw [← e57, f_MO_moves_57, if_pos q61])
  have J109 : ∀ (w109_2 : Int32) (H : Heap) (locs : List Loc) (ls : Array Slot), Wd xCl E A s.heap H locs (mW E ad σ) → lv_has ls 5 [] → zV (f_MO_moves_109 σ a1 a2 a3 a4 w109_2) = Z → W p l e (rmo 1 22) s m ([.ref (ad 0), .int a1, .int a2, .int a3, .int a4] : List Value).toArray below meth c H locs 0 0 (MQ below (rQ xCl (mW E ad) E A Z) ([.ref (ad 0), .int a1, .int a2, .int a3, .int a4] : List Value).toArray s 0 0 A) (F0 m 109 ls [.int w109_2, .int a2, .ref (ad 0)]) := by
    intro w109_2 H locs ls w hl e109
    refine cVV (rest := []) hc w (c_MO_put l E ad σ a2 w109_2 h1) kv_MO_put mw_1000 0 rfl rfl ⟨Nat.le_of_ble_eq_true rfl, Nat.le_of_ble_eq_true rfl⟩ hl.1 rfl (Nat.le_of_ble_eq_true rfl) ⟨Nat.zero_le _, Nat.zero_le _⟩ d_MO_moves_109 (fun z109 H locs hs109 w => ?_)
    have e_c4 : zV (f_MO_moves_c4 z109 a1 a2 a3 a4 ) = Z := by rw [← e109, f_MO_moves_109, hs109]
    refine lv_goto (tgt := 156) hx hb d_MO_moves_112 (by decide) ?_
    exact rt_v hc w d_MO_moves_156 (by rw [← e_c4, f_MO_moves_c4] <;> rfl)
  have J90 : ∀ (H : Heap) (locs : List Loc) (ls : Array Slot), Wd xCl E A s.heap H locs (mW E ad σ) → lv_has ls 5 [(0, .ref (ad 0)), (1, .int a1), (2, .int a2)] → zV (f_MO_moves_90 σ a1 a2 a3 a4) = Z → W p l e (rmo 1 22) s m ([.ref (ad 0), .int a1, .int a2, .int a3, .int a4] : List Value).toArray below meth c H locs 0 0 (MQ below (rQ xCl (mW E ad) E A Z) ([.ref (ad 0), .int a1, .int a2, .int a3, .int a4] : List Value).toArray s 0 0 A) (F0 m 90 ls []) := by
    intro  H locs ls w hl e90
    refine lv_aload_n hx hb d_MO_moves_90 rfl (lv_at hl 0 rfl) ?_
    refine lv_iload_n hx hb d_MO_moves_91 rfl (lv_at hl 2 rfl) ?_
    refine lv_iload_n hx hb d_MO_moves_92 rfl (lv_at hl 1 rfl) ?_
    refine lv_bipush (v := 16) hx hb d_MO_moves_93 (by decide) ?_
    refine lv_icmp_ne (tgt := 105) hx hb d_MO_moves_95 (by decide) (fun q95 => ?_) (fun q95 => ?_)
    · refine lv_aload_n hx hb d_MO_moves_105 rfl (lv_at hl 0 rfl) ?_
      refine g_MO_lo hc w mw_890 d_MO_moves_106 ?_
      exact J109 (m_lo σ) _ _ _ w (lv_sub hl [] rfl) (by rw [← e90, f_MO_moves_90, if_neg q95])
    · refine lv_aload_n hx hb d_MO_moves_98 rfl (lv_at hl 0 rfl) ?_
      refine g_MO_hi hc w mw_889 d_MO_moves_99 ?_
      refine lv_goto (tgt := 109) hx hb d_MO_moves_102 (by decide) ?_
      exact J109 (m_hi σ) _ _ _ w (lv_sub hl [] rfl) (by rw [← e90, f_MO_moves_90, if_pos q95])
  refine lv_iload_n hx hb d_MO_moves_0 rfl (lv_at hl 1 rfl) ?_
  refine lv_bipush (v := 10) hx hb d_MO_moves_1 (by decide) ?_
  refine lv_icmp_eq (tgt := 12) hx hb d_MO_moves_3 (by decide) (fun q3 => ?_) (fun q3 => ?_)
  · exact J12  _ _ _ w (lv_sub hl [0, 1, 2, 3, 4] rfl) (by rw [← e0, f_MO_moves, if_pos q3])
  · refine lv_iload_n hx hb d_MO_moves_6 rfl (lv_at hl 1 rfl) ?_
    refine lv_bipush (v := 11) hx hb d_MO_moves_7 (by decide) ?_
    refine lv_icmp_ne (tgt := 45) hx hb d_MO_moves_9 (by decide) (fun q9 => ?_) (fun q9 => ?_)
    · refine lv_iload_n hx hb d_MO_moves_45 rfl (lv_at hl 1 rfl) ?_
      refine lv_bipush (v := 12) hx hb d_MO_moves_46 (by decide) ?_
      refine lv_icmp_eq (tgt := 57) hx hb d_MO_moves_48 (by decide) (fun q48 => ?_) (fun q48 => ?_)
      · exact J57  _ _ _ w (lv_sub hl [0, 1] rfl) (by rw [← e0, f_MO_moves, if_neg q3, if_neg q9, if_pos q48])
      · refine lv_iload_n hx hb d_MO_moves_51 rfl (lv_at hl 1 rfl) ?_
        refine lv_bipush (v := 13) hx hb d_MO_moves_52 (by decide) ?_
        refine lv_icmp_ne (tgt := 78) hx hb d_MO_moves_54 (by decide) (fun q54 => ?_) (fun q54 => ?_)
        · refine lv_iload_n hx hb d_MO_moves_78 rfl (lv_at hl 1 rfl) ?_
          refine lv_bipush (v := 16) hx hb d_MO_moves_79 (by decide) ?_
          refine lv_icmp_eq (tgt := 90) hx hb d_MO_moves_81 (by decide) (fun q81 => ?_) (fun q81 => ?_)
          · exact J90  _ _ _ w (lv_sub hl [0, 1, 2] rfl) (by rw [← e0, f_MO_moves, if_neg q3, if_neg q9, if_neg q48, if_neg q54, if_pos q81])
          · refine lv_iload_n hx hb d_MO_moves_84 rfl (lv_at hl 1 rfl) ?_
            refine lv_bipush (v := 18) hx hb d_MO_moves_85 (by decide) ?_
            refine lv_icmp_ne (tgt := 115) hx hb d_MO_moves_87 (by decide) (fun q87 => ?_) (fun q87 => ?_)
            · refine lv_iload_n hx hb d_MO_moves_115 rfl (lv_at hl 1 rfl) ?_
              refine lv_bipush (v := 17) hx hb d_MO_moves_116 (by decide) ?_
              refine lv_icmp_ne (tgt := 129) hx hb d_MO_moves_118 (by decide) (fun q118 => ?_) (fun q118 => ?_)
              · refine lv_iload_n hx hb d_MO_moves_129 rfl (lv_at hl 1 rfl) ?_
                refine lv_bipush (v := 19) hx hb d_MO_moves_130 (by decide) ?_
                refine lv_icmp_ne (tgt := 143) hx hb d_MO_moves_132 (by decide) (fun q132 => ?_) (fun q132 => ?_)
                · refine lv_iload_n hx hb d_MO_moves_143 rfl (lv_at hl 1 rfl) ?_
                  refine lv_bipush (v := 15) hx hb d_MO_moves_144 (by decide) ?_
                  refine lv_icmp_eq (tgt := 156) hx hb d_MO_moves_146 (by decide) (fun q146 => ?_) (fun q146 => ?_)
                  · exact rt_v hc w d_MO_moves_156 (by rw [← e0, f_MO_moves, if_neg q3, if_neg q9, if_neg q48, if_neg q54, if_neg q81, if_neg q87, if_neg q118, if_neg q132, if_pos q146] <;> rfl)
                  · refine lv_aload_n hx hb d_MO_moves_149 rfl (lv_at hl 0 rfl) ?_
                    refine lv_bipush (v := 10) hx hb d_MO_moves_150 (by decide) ?_
                    refine cVI (rest := []) hc w (c_MO_raise l E ad σ (10 : Int32)) kv_MO_raise mw_1079 0 rfl rfl ⟨Nat.le_of_ble_eq_true rfl, Nat.le_of_ble_eq_true rfl⟩ hl.1 rfl (Nat.le_of_ble_eq_true rfl) ⟨Nat.zero_le _, Nat.zero_le _⟩ d_MO_moves_152 (fun z152 H locs hs152 w => ?_)
                    have e_c1 : zV (f_MO_moves_c1 z152 a1 a2 a3 a4 ) = Z := by rw [← e0, f_MO_moves, if_neg q3, if_neg q9, if_neg q48, if_neg q54, if_neg q81, if_neg q87, if_neg q118, if_neg q132, if_neg q146, hs152]
                    refine lv_pop hx hb d_MO_moves_155 rfl ?_
                    exact rt_v hc w d_MO_moves_156 (by rw [← e_c1, f_MO_moves_c1] <;> rfl)
                · refine lv_aload_n hx hb d_MO_moves_135 rfl (lv_at hl 0 rfl) ?_
                  refine lv_iload_n hx hb d_MO_moves_136 rfl (lv_at hl 3 rfl) ?_
                  refine p_MO_lo hc w mw_890 d_MO_moves_137 (fun σ137 H locs hs137 w => ?_)
                  have e_c2 : zV (f_MO_moves_c2 σ137 a1 a2 a3 a4 ) = Z := by rw [← e0, f_MO_moves, if_neg q3, if_neg q9, if_neg q48, if_neg q54, if_neg q81, if_neg q87, if_neg q118, if_pos q132, hs137]
                  refine lv_goto (tgt := 156) hx hb d_MO_moves_140 (by decide) ?_
                  exact rt_v hc w d_MO_moves_156 (by rw [← e_c2, f_MO_moves_c2] <;> rfl)
              · refine lv_aload_n hx hb d_MO_moves_121 rfl (lv_at hl 0 rfl) ?_
                refine lv_iload_n hx hb d_MO_moves_122 rfl (lv_at hl 3 rfl) ?_
                refine p_MO_hi hc w mw_889 d_MO_moves_123 (fun σ123 H locs hs123 w => ?_)
                have e_c3 : zV (f_MO_moves_c3 σ123 a1 a2 a3 a4 ) = Z := by rw [← e0, f_MO_moves, if_neg q3, if_neg q9, if_neg q48, if_neg q54, if_neg q81, if_neg q87, if_pos q118, hs123]
                refine lv_goto (tgt := 156) hx hb d_MO_moves_126 (by decide) ?_
                exact rt_v hc w d_MO_moves_156 (by rw [← e_c3, f_MO_moves_c3] <;> rfl)
            · exact J90  _ _ _ w (lv_sub hl [0, 1, 2] rfl) (by rw [← e0, f_MO_moves, if_neg q3, if_neg q9, if_neg q48, if_neg q54, if_neg q81, if_pos q87])
        · exact J57  _ _ _ w (lv_sub hl [0, 1] rfl) (by rw [← e0, f_MO_moves, if_neg q3, if_neg q9, if_neg q48, if_pos q54])
    · exact J12  _ _ _ w (lv_sub hl [0, 1, 2, 3, 4] rfl) (by rw [← e0, f_MO_moves, if_neg q3, if_pos q9])
-- MO_whole
def f_MO_whole (σ : MS) (a1 : Int32) (a2 : Bool) : Int64 := if (zb a2) = 0 then ((Int32.toInt64 a1) &&& (4294967295 : Int64)) else (Int32.toInt64 a1)
theorem d_MO_whole_0 : decode b_MO_whole 0 = .ok (.iload_n 1, 1) := by decide +kernel
theorem d_MO_whole_1 : decode b_MO_whole 1 = .ok (.ifCond .eq 8, 3) := by decide +kernel
theorem d_MO_whole_4 : decode b_MO_whole 4 = .ok (.iload_n 0, 1) := by decide +kernel
theorem d_MO_whole_5 : decode b_MO_whole 5 = .ok (.i2l, 1) := by decide +kernel
theorem d_MO_whole_6 : decode b_MO_whole 6 = .ok (.goto 9, 3) := by decide +kernel
theorem d_MO_whole_9 : decode b_MO_whole 9 = .ok (.iload_n 0, 1) := by decide +kernel
theorem d_MO_whole_10 : decode b_MO_whole 10 = .ok (.i2l, 1) := by decide +kernel
theorem d_MO_whole_11 : decode b_MO_whole 11 = .ok (.ldc2_w 218, 3) := by decide +kernel
theorem d_MO_whole_14 : decode b_MO_whole 14 = .ok (.land, 1) := by decide +kernel
theorem d_MO_whole_15 : decode b_MO_whole 15 = .ok (.lreturn, 1) := by decide +kernel
set_option maxHeartbeats 4000000 in
set_option maxRecDepth 100000 in
theorem c_MO_whole (l : Launch) (E : Ev) (ad : Nat → Nat) (σ : MS) (a1 : Int32) (a2 : Bool) : rC xCl l E (mW E ad) y_MO_whole b_MO_whole 2 (Option.some Jvm.ClassFile.FieldType.long) (rmo 0 0) [.int a1, .int (zb a2)] σ ((σ, some (Value.long (f_MO_whole σ a1 a2)))) := by
  refine rC.of (by decide) (Nat.le_of_ble_eq_true rfl) ?_
  intro p e s m below meth c A ls hc w hl
  generalize e0 : (σ, some (Value.long (f_MO_whole σ a1 a2))) = Z
  have hc : Cx xCl E A p s m ([.int a1, .int (zb a2)] : List Value).toArray meth c b_MO_whole 2 (Option.some Jvm.ClassFile.FieldType.long) "PageMachineModel" := hc
  have hx := hc.1
  have hb := hc.2.1
  have ho := hc.2.2.2.2.2.1
  have hT := hc.2.2.2.2.2.2.1
  have hl : lv_has ls 2 [(0, .int a1), (1, .int (zb a2))] := hl
  refine lv_iload_n hx hb d_MO_whole_0 rfl (lv_at hl 1 rfl) ?_
  refine lv_if_eq (tgt := 9) hx hb d_MO_whole_1 (by decide) (fun q1 => ?_) (fun q1 => ?_)
  · refine lv_iload_n hx hb d_MO_whole_9 rfl (lv_at hl 0 rfl) ?_
    refine lv_i2l hx hb d_MO_whole_10 rfl ?_
    refine lv_ldc2 (v := 4294967295) hx hb ho (hT _ mw_1102) d_MO_whole_11 ?_
    refine lv_land hx hb d_MO_whole_14 ?_
    exact rt_l hc w d_MO_whole_15 (by rw [← e0, f_MO_whole, if_pos q1] <;> rfl)
  · refine lv_iload_n hx hb d_MO_whole_4 rfl (lv_at hl 0 rfl) ?_
    refine lv_i2l hx hb d_MO_whole_5 rfl ?_
    refine lv_goto (tgt := 15) hx hb d_MO_whole_6 (by decide) ?_
    exact rt_l hc w d_MO_whole_15 (by rw [← e0, f_MO_whole, if_neg q1] <;> rfl)
-- MO_setBoth
def f_MO_setBoth_c2 (σ12 : MS) (a1 : Int64)  : MS := σ12
def f_MO_setBoth_c1 (σ6 : MS) (a1 : Int64)  : MS := f_MO_setBoth_c2 (ms_lo σ6 (Int64.toInt32 a1)) a1 
def f_MO_setBoth (σ : MS) (a1 : Int64) : MS := f_MO_setBoth_c1 (ms_hi σ (Int64.toInt32 (a1 >>> (Int32.toInt64 (32 : Int32) &&& 63)))) a1 
theorem d_MO_setBoth_0 : decode b_MO_setBoth 0 = .ok (.aload_n 0, 1) := by decide +kernel
theorem d_MO_setBoth_1 : decode b_MO_setBoth 1 = .ok (.lload_n 1, 1) := by decide +kernel
theorem d_MO_setBoth_2 : decode b_MO_setBoth 2 = .ok (.bipush 32, 2) := by decide +kernel
theorem d_MO_setBoth_4 : decode b_MO_setBoth 4 = .ok (.lshr, 1) := by decide +kernel
theorem d_MO_setBoth_5 : decode b_MO_setBoth 5 = .ok (.l2i, 1) := by decide +kernel
theorem d_MO_setBoth_6 : decode b_MO_setBoth 6 = .ok (.putfield 72, 3) := by decide +kernel
theorem d_MO_setBoth_9 : decode b_MO_setBoth 9 = .ok (.aload_n 0, 1) := by decide +kernel
theorem d_MO_setBoth_10 : decode b_MO_setBoth 10 = .ok (.lload_n 1, 1) := by decide +kernel
theorem d_MO_setBoth_11 : decode b_MO_setBoth 11 = .ok (.l2i, 1) := by decide +kernel
theorem d_MO_setBoth_12 : decode b_MO_setBoth 12 = .ok (.putfield 75, 3) := by decide +kernel
theorem d_MO_setBoth_15 : decode b_MO_setBoth 15 = .ok (.return_, 1) := by decide +kernel
set_option maxHeartbeats 4000000 in
set_option maxRecDepth 100000 in
theorem c_MO_setBoth (l : Launch) (E : Ev) (ad : Nat → Nat) (σ : MS) (a1 : Int64) : rC xCl l E (mW E ad) y_MO_setBoth b_MO_setBoth 3 (Option.none : Option Jvm.ClassFile.FieldType) (rmo 0 0) [.ref (ad 0), .long a1] σ (zV (f_MO_setBoth σ a1)) := by
  refine rC.of (by decide) (Nat.le_of_ble_eq_true rfl) ?_
  intro p e s m below meth c A ls hc w hl
  generalize e0 : zV (f_MO_setBoth σ a1) = Z
  have hc : Cx xCl E A p s m ([.ref (ad 0), .long a1] : List Value).toArray meth c b_MO_setBoth 3 (Option.none : Option Jvm.ClassFile.FieldType) "PageMachineModel" := hc
  have hx := hc.1
  have hb := hc.2.1
  have ho := hc.2.2.2.2.2.1
  have hT := hc.2.2.2.2.2.2.1
  have hl : lv_has ls 3 [(0, .ref (ad 0)), (1, .long a1)] := hl
  refine lv_aload_n hx hb d_MO_setBoth_0 rfl (lv_at hl 0 rfl) ?_
  refine lv_lload_n hx hb d_MO_setBoth_1 rfl (lv_at hl 1 rfl) ?_
  refine lv_bipush (v := 32) hx hb d_MO_setBoth_2 (by decide) ?_
  refine lv_lshr hx hb d_MO_setBoth_4 rfl ?_
  refine lv_l2i hx hb d_MO_setBoth_5 rfl ?_
  refine p_MO_hi hc w mw_889 d_MO_setBoth_6 (fun σ6 H locs hs6 w => ?_)
  have e_c1 : zV (f_MO_setBoth_c1 σ6 a1 ) = Z := by rw [← e0, f_MO_setBoth, hs6]
  refine lv_aload_n hx hb d_MO_setBoth_9 rfl (lv_at hl 0 rfl) ?_
  refine lv_lload_n hx hb d_MO_setBoth_10 rfl (lv_at hl 1 rfl) ?_
  refine lv_l2i hx hb d_MO_setBoth_11 rfl ?_
  refine p_MO_lo hc w mw_890 d_MO_setBoth_12 (fun σ12 H locs hs12 w => ?_)
  have e_c2 : zV (f_MO_setBoth_c2 σ12 a1 ) = Z := by rw [← e_c1, f_MO_setBoth_c1, hs12]
  exact rt_v hc w d_MO_setBoth_15 (by rw [← e_c2, f_MO_setBoth_c2] <;> rfl)
