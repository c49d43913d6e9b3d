section PRF
variable {σ : XS} {τ : MS}
theorem pc_0 (σ : XS) : f_PR_perform σ 0 = f_PR_performOp0 σ := by
  unfold f_PR_perform
  simp (decide := true) only [reduceIte, f_PR_perform_296, f_PR_perform_304, f_PR_perform_312, f_PR_perform_320, f_PR_perform_325, f_PR_perform_343, f_PR_perform_351, i_PR_perform_c1, i_PR_perform_c2, i_PR_perform_c3, i_PR_perform_c4, i_PR_perform_c5, i_PR_perform_c6, i_PR_perform_c7, i_PR_perform_c8, i_PR_perform_c9, i_PR_perform_c10]
theorem pm_0 (τ : MS) (i : Int32) (hop : (Int32.toUInt32 i >>> (Int32.toUInt32 (26 : Int32) &&& Int32.toUInt32 31)).toInt32 = 0) : f_MO_perform τ i = f_MO_special τ i (m_r τ (Int32.toNatClampNeg ((i >>> ((21 : Int32) &&& 31)) &&& (31 : Int32)))) (m_r τ (Int32.toNatClampNeg ((i >>> ((16 : Int32) &&& 31)) &&& (31 : Int32)))) := by
  unfold f_MO_perform
  simp (decide := true) only [hop, f_MO_within, zb, reduceIte, f_MO_perform_99, f_MO_perform_146, i_MO_perform_c1, i_MO_perform_c2, i_MO_perform_c3, i_MO_perform_c4, i_MO_perform_c5, i_MO_perform_c6, i_MO_perform_c7, i_MO_perform_c8]
theorem pf_0 (h : R1 σ τ) (hn : m_slot τ = false → m_next τ = m_pc τ + 4) (hop : f_CO_op σ = 0) : Post (f_PR_perform σ 0) (f_MO_perform τ (x_instr σ)) := by
  rw [pc_0, pm_0 τ _ hop, e_rs, s_eq h.1, e_rt, t_eq h.1]
  exact special_ag h hn
theorem pc_1 (σ : XS) : f_PR_perform σ 1 = f_PR_performOp1 σ := by
  unfold f_PR_perform
  simp (decide := true) only [reduceIte, f_PR_perform_296, f_PR_perform_304, f_PR_perform_312, f_PR_perform_320, f_PR_perform_325, f_PR_perform_343, f_PR_perform_351, i_PR_perform_c1, i_PR_perform_c2, i_PR_perform_c3, i_PR_perform_c4, i_PR_perform_c5, i_PR_perform_c6, i_PR_perform_c7, i_PR_perform_c8, i_PR_perform_c9, i_PR_perform_c10]
theorem pm_1 (τ : MS) (i : Int32) (hop : (Int32.toUInt32 i >>> (Int32.toUInt32 (26 : Int32) &&& Int32.toUInt32 31)).toInt32 = 1) : f_MO_perform τ i = f_MO_byRegister τ ((i >>> ((16 : Int32) &&& 31)) &&& (31 : Int32)) (m_r τ (Int32.toNatClampNeg ((i >>> ((21 : Int32) &&& 31)) &&& (31 : Int32)))) ((i <<< ((16 : Int32) &&& 31)) >>> ((16 : Int32) &&& 31)) := by
  unfold f_MO_perform
  simp (decide := true) only [hop, f_MO_within, zb, reduceIte, f_MO_perform_99, f_MO_perform_146, i_MO_perform_c1, i_MO_perform_c2, i_MO_perform_c3, i_MO_perform_c4, i_MO_perform_c5, i_MO_perform_c6, i_MO_perform_c7, i_MO_perform_c8]
theorem pf_1 (h : R1 σ τ) (hn : m_slot τ = false → m_next τ = m_pc τ + 4) (hop : f_CO_op σ = 1) : Post (f_PR_perform σ 1) (f_MO_perform τ (x_instr σ)) := by
  rw [pc_1, pm_1 τ _ hop, e_rs, s_eq h.1, e_rt, e_imm]
  exact byReg_ag h hn
theorem pc_2 (σ : XS) : f_PR_perform σ 2 = f_BR_jump σ false := by
  unfold f_PR_perform
  simp (decide := true) only [reduceIte, f_PR_perform_296, f_PR_perform_304, f_PR_perform_312, f_PR_perform_320, f_PR_perform_325, f_PR_perform_343, f_PR_perform_351, i_PR_perform_c1, i_PR_perform_c2, i_PR_perform_c3, i_PR_perform_c4, i_PR_perform_c5, i_PR_perform_c6, i_PR_perform_c7, i_PR_perform_c8, i_PR_perform_c9, i_PR_perform_c10]
theorem pm_2 (τ : MS) (i : Int32) (hop : (Int32.toUInt32 i >>> (Int32.toUInt32 (26 : Int32) &&& Int32.toUInt32 31)).toInt32 = 2) : f_MO_perform τ i = f_MO_branches τ i 2 (m_r τ (Int32.toNatClampNeg ((i >>> ((21 : Int32) &&& 31)) &&& (31 : Int32)))) (m_r τ (Int32.toNatClampNeg ((i >>> ((16 : Int32) &&& 31)) &&& (31 : Int32)))) ((i <<< ((16 : Int32) &&& 31)) >>> ((16 : Int32) &&& 31)) := by
  unfold f_MO_perform
  simp (decide := true) only [hop, f_MO_within, zb, reduceIte, f_MO_perform_99, f_MO_perform_146, i_MO_perform_c1, i_MO_perform_c2, i_MO_perform_c3, i_MO_perform_c4, i_MO_perform_c5, i_MO_perform_c6, i_MO_perform_c7, i_MO_perform_c8]
theorem pf_2 (h : R1 σ τ) (hn : m_slot τ = false → m_next τ = m_pc τ + 4) (hop : f_CO_op σ = 2) : Post (f_PR_perform σ 2) (f_MO_perform τ (x_instr σ)) := by
  rw [pc_2, pm_2 τ _ hop, e_rs, s_eq h.1, e_rt, t_eq h.1, e_imm]
  exact brs_2 h hn
theorem pc_3 (σ : XS) : f_PR_perform σ 3 = f_BR_jump σ true := by
  unfold f_PR_perform
  simp (decide := true) only [reduceIte, f_PR_perform_296, f_PR_perform_304, f_PR_perform_312, f_PR_perform_320, f_PR_perform_325, f_PR_perform_343, f_PR_perform_351, i_PR_perform_c1, i_PR_perform_c2, i_PR_perform_c3, i_PR_perform_c4, i_PR_perform_c5, i_PR_perform_c6, i_PR_perform_c7, i_PR_perform_c8, i_PR_perform_c9, i_PR_perform_c10]
theorem pm_3 (τ : MS) (i : Int32) (hop : (Int32.toUInt32 i >>> (Int32.toUInt32 (26 : Int32) &&& Int32.toUInt32 31)).toInt32 = 3) : f_MO_perform τ i = f_MO_branches τ i 3 (m_r τ (Int32.toNatClampNeg ((i >>> ((21 : Int32) &&& 31)) &&& (31 : Int32)))) (m_r τ (Int32.toNatClampNeg ((i >>> ((16 : Int32) &&& 31)) &&& (31 : Int32)))) ((i <<< ((16 : Int32) &&& 31)) >>> ((16 : Int32) &&& 31)) := by
  unfold f_MO_perform
  simp (decide := true) only [hop, f_MO_within, zb, reduceIte, f_MO_perform_99, f_MO_perform_146, i_MO_perform_c1, i_MO_perform_c2, i_MO_perform_c3, i_MO_perform_c4, i_MO_perform_c5, i_MO_perform_c6, i_MO_perform_c7, i_MO_perform_c8]
theorem pf_3 (h : R1 σ τ) (hn : m_slot τ = false → m_next τ = m_pc τ + 4) (hop : f_CO_op σ = 3) : Post (f_PR_perform σ 3) (f_MO_perform τ (x_instr σ)) := by
  rw [pc_3, pm_3 τ _ hop, e_rs, s_eq h.1, e_rt, t_eq h.1, e_imm]
  exact brs_3 h hn
theorem pc_4 (σ : XS) : f_PR_perform σ 4 = f_BR_byComparison σ := by
  unfold f_PR_perform
  simp (decide := true) only [reduceIte, f_PR_perform_296, f_PR_perform_304, f_PR_perform_312, f_PR_perform_320, f_PR_perform_325, f_PR_perform_343, f_PR_perform_351, i_PR_perform_c1, i_PR_perform_c2, i_PR_perform_c3, i_PR_perform_c4, i_PR_perform_c5, i_PR_perform_c6, i_PR_perform_c7, i_PR_perform_c8, i_PR_perform_c9, i_PR_perform_c10]
theorem pm_4 (τ : MS) (i : Int32) (hop : (Int32.toUInt32 i >>> (Int32.toUInt32 (26 : Int32) &&& Int32.toUInt32 31)).toInt32 = 4) : f_MO_perform τ i = f_MO_branches τ i 4 (m_r τ (Int32.toNatClampNeg ((i >>> ((21 : Int32) &&& 31)) &&& (31 : Int32)))) (m_r τ (Int32.toNatClampNeg ((i >>> ((16 : Int32) &&& 31)) &&& (31 : Int32)))) ((i <<< ((16 : Int32) &&& 31)) >>> ((16 : Int32) &&& 31)) := by
  unfold f_MO_perform
  simp (decide := true) only [hop, f_MO_within, zb, reduceIte, f_MO_perform_99, f_MO_perform_146, i_MO_perform_c1, i_MO_perform_c2, i_MO_perform_c3, i_MO_perform_c4, i_MO_perform_c5, i_MO_perform_c6, i_MO_perform_c7, i_MO_perform_c8]
theorem pf_4 (h : R1 σ τ) (hn : m_slot τ = false → m_next τ = m_pc τ + 4) (hop : f_CO_op σ = 4) : Post (f_PR_perform σ 4) (f_MO_perform τ (x_instr σ)) := by
  rw [pc_4, pm_4 τ _ hop, e_rs, s_eq h.1, e_rt, t_eq h.1, e_imm]
  exact brs_4 h hn hop
theorem pc_5 (σ : XS) : f_PR_perform σ 5 = f_BR_byComparison σ := by
  unfold f_PR_perform
  simp (decide := true) only [reduceIte, f_PR_perform_296, f_PR_perform_304, f_PR_perform_312, f_PR_perform_320, f_PR_perform_325, f_PR_perform_343, f_PR_perform_351, i_PR_perform_c1, i_PR_perform_c2, i_PR_perform_c3, i_PR_perform_c4, i_PR_perform_c5, i_PR_perform_c6, i_PR_perform_c7, i_PR_perform_c8, i_PR_perform_c9, i_PR_perform_c10]
theorem pm_5 (τ : MS) (i : Int32) (hop : (Int32.toUInt32 i >>> (Int32.toUInt32 (26 : Int32) &&& Int32.toUInt32 31)).toInt32 = 5) : f_MO_perform τ i = f_MO_branches τ i 5 (m_r τ (Int32.toNatClampNeg ((i >>> ((21 : Int32) &&& 31)) &&& (31 : Int32)))) (m_r τ (Int32.toNatClampNeg ((i >>> ((16 : Int32) &&& 31)) &&& (31 : Int32)))) ((i <<< ((16 : Int32) &&& 31)) >>> ((16 : Int32) &&& 31)) := by
  unfold f_MO_perform
  simp (decide := true) only [hop, f_MO_within, zb, reduceIte, f_MO_perform_99, f_MO_perform_146, i_MO_perform_c1, i_MO_perform_c2, i_MO_perform_c3, i_MO_perform_c4, i_MO_perform_c5, i_MO_perform_c6, i_MO_perform_c7, i_MO_perform_c8]
theorem pf_5 (h : R1 σ τ) (hn : m_slot τ = false → m_next τ = m_pc τ + 4) (hop : f_CO_op σ = 5) : Post (f_PR_perform σ 5) (f_MO_perform τ (x_instr σ)) := by
  rw [pc_5, pm_5 τ _ hop, e_rs, s_eq h.1, e_rt, t_eq h.1, e_imm]
  exact brs_5 h hn hop
theorem pc_6 (σ : XS) : f_PR_perform σ 6 = f_BR_byComparison σ := by
  unfold f_PR_perform
  simp (decide := true) only [reduceIte, f_PR_perform_296, f_PR_perform_304, f_PR_perform_312, f_PR_perform_320, f_PR_perform_325, f_PR_perform_343, f_PR_perform_351, i_PR_perform_c1, i_PR_perform_c2, i_PR_perform_c3, i_PR_perform_c4, i_PR_perform_c5, i_PR_perform_c6, i_PR_perform_c7, i_PR_perform_c8, i_PR_perform_c9, i_PR_perform_c10]
theorem pm_6 (τ : MS) (i : Int32) (hop : (Int32.toUInt32 i >>> (Int32.toUInt32 (26 : Int32) &&& Int32.toUInt32 31)).toInt32 = 6) : f_MO_perform τ i = f_MO_branches τ i 6 (m_r τ (Int32.toNatClampNeg ((i >>> ((21 : Int32) &&& 31)) &&& (31 : Int32)))) (m_r τ (Int32.toNatClampNeg ((i >>> ((16 : Int32) &&& 31)) &&& (31 : Int32)))) ((i <<< ((16 : Int32) &&& 31)) >>> ((16 : Int32) &&& 31)) := by
  unfold f_MO_perform
  simp (decide := true) only [hop, f_MO_within, zb, reduceIte, f_MO_perform_99, f_MO_perform_146, i_MO_perform_c1, i_MO_perform_c2, i_MO_perform_c3, i_MO_perform_c4, i_MO_perform_c5, i_MO_perform_c6, i_MO_perform_c7, i_MO_perform_c8]
theorem pf_6 (h : R1 σ τ) (hn : m_slot τ = false → m_next τ = m_pc τ + 4) (hop : f_CO_op σ = 6) : Post (f_PR_perform σ 6) (f_MO_perform τ (x_instr σ)) := by
  rw [pc_6, pm_6 τ _ hop, e_rs, s_eq h.1, e_rt, t_eq h.1, e_imm]
  exact brs_6 h hn hop
theorem pc_7 (σ : XS) : f_PR_perform σ 7 = f_BR_byComparison σ := by
  unfold f_PR_perform
  simp (decide := true) only [reduceIte, f_PR_perform_296, f_PR_perform_304, f_PR_perform_312, f_PR_perform_320, f_PR_perform_325, f_PR_perform_343, f_PR_perform_351, i_PR_perform_c1, i_PR_perform_c2, i_PR_perform_c3, i_PR_perform_c4, i_PR_perform_c5, i_PR_perform_c6, i_PR_perform_c7, i_PR_perform_c8, i_PR_perform_c9, i_PR_perform_c10]
theorem pm_7 (τ : MS) (i : Int32) (hop : (Int32.toUInt32 i >>> (Int32.toUInt32 (26 : Int32) &&& Int32.toUInt32 31)).toInt32 = 7) : f_MO_perform τ i = f_MO_branches τ i 7 (m_r τ (Int32.toNatClampNeg ((i >>> ((21 : Int32) &&& 31)) &&& (31 : Int32)))) (m_r τ (Int32.toNatClampNeg ((i >>> ((16 : Int32) &&& 31)) &&& (31 : Int32)))) ((i <<< ((16 : Int32) &&& 31)) >>> ((16 : Int32) &&& 31)) := by
  unfold f_MO_perform
  simp (decide := true) only [hop, f_MO_within, zb, reduceIte, f_MO_perform_99, f_MO_perform_146, i_MO_perform_c1, i_MO_perform_c2, i_MO_perform_c3, i_MO_perform_c4, i_MO_perform_c5, i_MO_perform_c6, i_MO_perform_c7, i_MO_perform_c8]
theorem pf_7 (h : R1 σ τ) (hn : m_slot τ = false → m_next τ = m_pc τ + 4) (hop : f_CO_op σ = 7) : Post (f_PR_perform σ 7) (f_MO_perform τ (x_instr σ)) := by
  rw [pc_7, pm_7 τ _ hop, e_rs, s_eq h.1, e_rt, t_eq h.1, e_imm]
  exact brs_7 h hn hop
theorem pc_8 (σ : XS) : f_PR_perform σ 8 = f_AR_immediate σ := by
  unfold f_PR_perform
  simp (decide := true) only [reduceIte, f_PR_perform_296, f_PR_perform_304, f_PR_perform_312, f_PR_perform_320, f_PR_perform_325, f_PR_perform_343, f_PR_perform_351, i_PR_perform_c1, i_PR_perform_c2, i_PR_perform_c3, i_PR_perform_c4, i_PR_perform_c5, i_PR_perform_c6, i_PR_perform_c7, i_PR_perform_c8, i_PR_perform_c9, i_PR_perform_c10]
theorem pm_8 (τ : MS) (i : Int32) (hop : (Int32.toUInt32 i >>> (Int32.toUInt32 (26 : Int32) &&& Int32.toUInt32 31)).toInt32 = 8) : f_MO_perform τ i = f_MO_immediate τ 8 ((i >>> ((16 : Int32) &&& 31)) &&& (31 : Int32)) (m_r τ (Int32.toNatClampNeg ((i >>> ((21 : Int32) &&& 31)) &&& (31 : Int32)))) ((i <<< ((16 : Int32) &&& 31)) >>> ((16 : Int32) &&& 31)) := by
  unfold f_MO_perform
  simp (decide := true) only [hop, f_MO_within, zb, reduceIte, f_MO_perform_99, f_MO_perform_146, i_MO_perform_c1, i_MO_perform_c2, i_MO_perform_c3, i_MO_perform_c4, i_MO_perform_c5, i_MO_perform_c6, i_MO_perform_c7, i_MO_perform_c8]
theorem pf_8 (h : R1 σ τ) (hn : m_slot τ = false → m_next τ = m_pc τ + 4) (hop : f_CO_op σ = 8) : Post (f_PR_perform σ 8) (f_MO_perform τ (x_instr σ)) := by
  rw [pc_8, pm_8 τ _ hop, e_rs, s_eq h.1, e_rt, e_imm]
  exact imm_8 h hop
theorem pc_9 (σ : XS) : f_PR_perform σ 9 = f_AR_immediate σ := by
  unfold f_PR_perform
  simp (decide := true) only [reduceIte, f_PR_perform_296, f_PR_perform_304, f_PR_perform_312, f_PR_perform_320, f_PR_perform_325, f_PR_perform_343, f_PR_perform_351, i_PR_perform_c1, i_PR_perform_c2, i_PR_perform_c3, i_PR_perform_c4, i_PR_perform_c5, i_PR_perform_c6, i_PR_perform_c7, i_PR_perform_c8, i_PR_perform_c9, i_PR_perform_c10]
theorem pm_9 (τ : MS) (i : Int32) (hop : (Int32.toUInt32 i >>> (Int32.toUInt32 (26 : Int32) &&& Int32.toUInt32 31)).toInt32 = 9) : f_MO_perform τ i = f_MO_immediate τ 9 ((i >>> ((16 : Int32) &&& 31)) &&& (31 : Int32)) (m_r τ (Int32.toNatClampNeg ((i >>> ((21 : Int32) &&& 31)) &&& (31 : Int32)))) ((i <<< ((16 : Int32) &&& 31)) >>> ((16 : Int32) &&& 31)) := by
  unfold f_MO_perform
  simp (decide := true) only [hop, f_MO_within, zb, reduceIte, f_MO_perform_99, f_MO_perform_146, i_MO_perform_c1, i_MO_perform_c2, i_MO_perform_c3, i_MO_perform_c4, i_MO_perform_c5, i_MO_perform_c6, i_MO_perform_c7, i_MO_perform_c8]
theorem pf_9 (h : R1 σ τ) (hn : m_slot τ = false → m_next τ = m_pc τ + 4) (hop : f_CO_op σ = 9) : Post (f_PR_perform σ 9) (f_MO_perform τ (x_instr σ)) := by
  rw [pc_9, pm_9 τ _ hop, e_rs, s_eq h.1, e_rt, e_imm]
  exact imm_9 h hop
theorem pc_10 (σ : XS) : f_PR_perform σ 10 = f_AR_immediate σ := by
  unfold f_PR_perform
  simp (decide := true) only [reduceIte, f_PR_perform_296, f_PR_perform_304, f_PR_perform_312, f_PR_perform_320, f_PR_perform_325, f_PR_perform_343, f_PR_perform_351, i_PR_perform_c1, i_PR_perform_c2, i_PR_perform_c3, i_PR_perform_c4, i_PR_perform_c5, i_PR_perform_c6, i_PR_perform_c7, i_PR_perform_c8, i_PR_perform_c9, i_PR_perform_c10]
theorem pm_10 (τ : MS) (i : Int32) (hop : (Int32.toUInt32 i >>> (Int32.toUInt32 (26 : Int32) &&& Int32.toUInt32 31)).toInt32 = 10) : f_MO_perform τ i = f_MO_immediate τ 10 ((i >>> ((16 : Int32) &&& 31)) &&& (31 : Int32)) (m_r τ (Int32.toNatClampNeg ((i >>> ((21 : Int32) &&& 31)) &&& (31 : Int32)))) ((i <<< ((16 : Int32) &&& 31)) >>> ((16 : Int32) &&& 31)) := by
  unfold f_MO_perform
  simp (decide := true) only [hop, f_MO_within, zb, reduceIte, f_MO_perform_99, f_MO_perform_146, i_MO_perform_c1, i_MO_perform_c2, i_MO_perform_c3, i_MO_perform_c4, i_MO_perform_c5, i_MO_perform_c6, i_MO_perform_c7, i_MO_perform_c8]
theorem pf_10 (h : R1 σ τ) (hn : m_slot τ = false → m_next τ = m_pc τ + 4) (hop : f_CO_op σ = 10) : Post (f_PR_perform σ 10) (f_MO_perform τ (x_instr σ)) := by
  rw [pc_10, pm_10 τ _ hop, e_rs, s_eq h.1, e_rt, e_imm]
  exact imm_10 h hop
theorem pc_11 (σ : XS) : f_PR_perform σ 11 = f_AR_immediate σ := by
  unfold f_PR_perform
  simp (decide := true) only [reduceIte, f_PR_perform_296, f_PR_perform_304, f_PR_perform_312, f_PR_perform_320, f_PR_perform_325, f_PR_perform_343, f_PR_perform_351, i_PR_perform_c1, i_PR_perform_c2, i_PR_perform_c3, i_PR_perform_c4, i_PR_perform_c5, i_PR_perform_c6, i_PR_perform_c7, i_PR_perform_c8, i_PR_perform_c9, i_PR_perform_c10]
theorem pm_11 (τ : MS) (i : Int32) (hop : (Int32.toUInt32 i >>> (Int32.toUInt32 (26 : Int32) &&& Int32.toUInt32 31)).toInt32 = 11) : f_MO_perform τ i = f_MO_immediate τ 11 ((i >>> ((16 : Int32) &&& 31)) &&& (31 : Int32)) (m_r τ (Int32.toNatClampNeg ((i >>> ((21 : Int32) &&& 31)) &&& (31 : Int32)))) ((i <<< ((16 : Int32) &&& 31)) >>> ((16 : Int32) &&& 31)) := by
  unfold f_MO_perform
  simp (decide := true) only [hop, f_MO_within, zb, reduceIte, f_MO_perform_99, f_MO_perform_146, i_MO_perform_c1, i_MO_perform_c2, i_MO_perform_c3, i_MO_perform_c4, i_MO_perform_c5, i_MO_perform_c6, i_MO_perform_c7, i_MO_perform_c8]
theorem pf_11 (h : R1 σ τ) (hn : m_slot τ = false → m_next τ = m_pc τ + 4) (hop : f_CO_op σ = 11) : Post (f_PR_perform σ 11) (f_MO_perform τ (x_instr σ)) := by
  rw [pc_11, pm_11 τ _ hop, e_rs, s_eq h.1, e_rt, e_imm]
  exact imm_11 h hop
theorem pc_12 (σ : XS) : f_PR_perform σ 12 = f_AR_immediate σ := by
  unfold f_PR_perform
  simp (decide := true) only [reduceIte, f_PR_perform_296, f_PR_perform_304, f_PR_perform_312, f_PR_perform_320, f_PR_perform_325, f_PR_perform_343, f_PR_perform_351, i_PR_perform_c1, i_PR_perform_c2, i_PR_perform_c3, i_PR_perform_c4, i_PR_perform_c5, i_PR_perform_c6, i_PR_perform_c7, i_PR_perform_c8, i_PR_perform_c9, i_PR_perform_c10]
theorem pm_12 (τ : MS) (i : Int32) (hop : (Int32.toUInt32 i >>> (Int32.toUInt32 (26 : Int32) &&& Int32.toUInt32 31)).toInt32 = 12) : f_MO_perform τ i = f_MO_immediate τ 12 ((i >>> ((16 : Int32) &&& 31)) &&& (31 : Int32)) (m_r τ (Int32.toNatClampNeg ((i >>> ((21 : Int32) &&& 31)) &&& (31 : Int32)))) ((i <<< ((16 : Int32) &&& 31)) >>> ((16 : Int32) &&& 31)) := by
  unfold f_MO_perform
  simp (decide := true) only [hop, f_MO_within, zb, reduceIte, f_MO_perform_99, f_MO_perform_146, i_MO_perform_c1, i_MO_perform_c2, i_MO_perform_c3, i_MO_perform_c4, i_MO_perform_c5, i_MO_perform_c6, i_MO_perform_c7, i_MO_perform_c8]
theorem pf_12 (h : R1 σ τ) (hn : m_slot τ = false → m_next τ = m_pc τ + 4) (hop : f_CO_op σ = 12) : Post (f_PR_perform σ 12) (f_MO_perform τ (x_instr σ)) := by
  rw [pc_12, pm_12 τ _ hop, e_rs, s_eq h.1, e_rt, e_imm]
  exact imm_12 h hop
theorem pc_13 (σ : XS) : f_PR_perform σ 13 = f_AR_immediate σ := by
  unfold f_PR_perform
  simp (decide := true) only [reduceIte, f_PR_perform_296, f_PR_perform_304, f_PR_perform_312, f_PR_perform_320, f_PR_perform_325, f_PR_perform_343, f_PR_perform_351, i_PR_perform_c1, i_PR_perform_c2, i_PR_perform_c3, i_PR_perform_c4, i_PR_perform_c5, i_PR_perform_c6, i_PR_perform_c7, i_PR_perform_c8, i_PR_perform_c9, i_PR_perform_c10]
theorem pm_13 (τ : MS) (i : Int32) (hop : (Int32.toUInt32 i >>> (Int32.toUInt32 (26 : Int32) &&& Int32.toUInt32 31)).toInt32 = 13) : f_MO_perform τ i = f_MO_immediate τ 13 ((i >>> ((16 : Int32) &&& 31)) &&& (31 : Int32)) (m_r τ (Int32.toNatClampNeg ((i >>> ((21 : Int32) &&& 31)) &&& (31 : Int32)))) ((i <<< ((16 : Int32) &&& 31)) >>> ((16 : Int32) &&& 31)) := by
  unfold f_MO_perform
  simp (decide := true) only [hop, f_MO_within, zb, reduceIte, f_MO_perform_99, f_MO_perform_146, i_MO_perform_c1, i_MO_perform_c2, i_MO_perform_c3, i_MO_perform_c4, i_MO_perform_c5, i_MO_perform_c6, i_MO_perform_c7, i_MO_perform_c8]
theorem pf_13 (h : R1 σ τ) (hn : m_slot τ = false → m_next τ = m_pc τ + 4) (hop : f_CO_op σ = 13) : Post (f_PR_perform σ 13) (f_MO_perform τ (x_instr σ)) := by
  rw [pc_13, pm_13 τ _ hop, e_rs, s_eq h.1, e_rt, e_imm]
  exact imm_13 h hop
theorem pc_14 (σ : XS) : f_PR_perform σ 14 = f_AR_immediate σ := by
  unfold f_PR_perform
  simp (decide := true) only [reduceIte, f_PR_perform_296, f_PR_perform_304, f_PR_perform_312, f_PR_perform_320, f_PR_perform_325, f_PR_perform_343, f_PR_perform_351, i_PR_perform_c1, i_PR_perform_c2, i_PR_perform_c3, i_PR_perform_c4, i_PR_perform_c5, i_PR_perform_c6, i_PR_perform_c7, i_PR_perform_c8, i_PR_perform_c9, i_PR_perform_c10]
theorem pm_14 (τ : MS) (i : Int32) (hop : (Int32.toUInt32 i >>> (Int32.toUInt32 (26 : Int32) &&& Int32.toUInt32 31)).toInt32 = 14) : f_MO_perform τ i = f_MO_immediate τ 14 ((i >>> ((16 : Int32) &&& 31)) &&& (31 : Int32)) (m_r τ (Int32.toNatClampNeg ((i >>> ((21 : Int32) &&& 31)) &&& (31 : Int32)))) ((i <<< ((16 : Int32) &&& 31)) >>> ((16 : Int32) &&& 31)) := by
  unfold f_MO_perform
  simp (decide := true) only [hop, f_MO_within, zb, reduceIte, f_MO_perform_99, f_MO_perform_146, i_MO_perform_c1, i_MO_perform_c2, i_MO_perform_c3, i_MO_perform_c4, i_MO_perform_c5, i_MO_perform_c6, i_MO_perform_c7, i_MO_perform_c8]
theorem pf_14 (h : R1 σ τ) (hn : m_slot τ = false → m_next τ = m_pc τ + 4) (hop : f_CO_op σ = 14) : Post (f_PR_perform σ 14) (f_MO_perform τ (x_instr σ)) := by
  rw [pc_14, pm_14 τ _ hop, e_rs, s_eq h.1, e_rt, e_imm]
  exact imm_14 h hop
theorem pc_15 (σ : XS) : f_PR_perform σ 15 = f_AR_immediate σ := by
  unfold f_PR_perform
  simp (decide := true) only [reduceIte, f_PR_perform_296, f_PR_perform_304, f_PR_perform_312, f_PR_perform_320, f_PR_perform_325, f_PR_perform_343, f_PR_perform_351, i_PR_perform_c1, i_PR_perform_c2, i_PR_perform_c3, i_PR_perform_c4, i_PR_perform_c5, i_PR_perform_c6, i_PR_perform_c7, i_PR_perform_c8, i_PR_perform_c9, i_PR_perform_c10]
theorem pm_15 (τ : MS) (i : Int32) (hop : (Int32.toUInt32 i >>> (Int32.toUInt32 (26 : Int32) &&& Int32.toUInt32 31)).toInt32 = 15) : f_MO_perform τ i = f_MO_immediate τ 15 ((i >>> ((16 : Int32) &&& 31)) &&& (31 : Int32)) (m_r τ (Int32.toNatClampNeg ((i >>> ((21 : Int32) &&& 31)) &&& (31 : Int32)))) ((i <<< ((16 : Int32) &&& 31)) >>> ((16 : Int32) &&& 31)) := by
  unfold f_MO_perform
  simp (decide := true) only [hop, f_MO_within, zb, reduceIte, f_MO_perform_99, f_MO_perform_146, i_MO_perform_c1, i_MO_perform_c2, i_MO_perform_c3, i_MO_perform_c4, i_MO_perform_c5, i_MO_perform_c6, i_MO_perform_c7, i_MO_perform_c8]
theorem pf_15 (h : R1 σ τ) (hn : m_slot τ = false → m_next τ = m_pc τ + 4) (hop : f_CO_op σ = 15) : Post (f_PR_perform σ 15) (f_MO_perform τ (x_instr σ)) := by
  rw [pc_15, pm_15 τ _ hop, e_rs, s_eq h.1, e_rt, e_imm]
  exact imm_15 h hop
theorem pc_16 (σ : XS) : f_PR_perform σ 16 = f_CP_perform σ := by
  unfold f_PR_perform
  simp (decide := true) only [reduceIte, f_PR_perform_296, f_PR_perform_304, f_PR_perform_312, f_PR_perform_320, f_PR_perform_325, f_PR_perform_343, f_PR_perform_351, i_PR_perform_c1, i_PR_perform_c2, i_PR_perform_c3, i_PR_perform_c4, i_PR_perform_c5, i_PR_perform_c6, i_PR_perform_c7, i_PR_perform_c8, i_PR_perform_c9, i_PR_perform_c10]
theorem pm_16 (τ : MS) (i : Int32) (hop : (Int32.toUInt32 i >>> (Int32.toUInt32 (26 : Int32) &&& Int32.toUInt32 31)).toInt32 = 16) : f_MO_perform τ i = f_MO_system τ i 16 ((i >>> ((21 : Int32) &&& 31)) &&& (31 : Int32)) ((i >>> ((16 : Int32) &&& 31)) &&& (31 : Int32)) := by
  unfold f_MO_perform
  simp (decide := true) only [hop, f_MO_within, zb, reduceIte, f_MO_perform_99, f_MO_perform_146, i_MO_perform_c1, i_MO_perform_c2, i_MO_perform_c3, i_MO_perform_c4, i_MO_perform_c5, i_MO_perform_c6, i_MO_perform_c7, i_MO_perform_c8]
theorem pf_16 (h : R1 σ τ) (hn : m_slot τ = false → m_next τ = m_pc τ + 4) (hop : f_CO_op σ = 16) : Post (f_PR_perform σ 16) (f_MO_perform τ (x_instr σ)) := by
  rw [pc_16, pm_16 τ _ hop, e_rt, e_rs]
  exact (sys_ag h hop).2
theorem pc_17 (σ : XS) : f_PR_perform σ 17 = (σ, f_FA_noCoprocessor σ 1) := by
  unfold f_PR_perform
  simp (decide := true) only [reduceIte, f_PR_perform_296, f_PR_perform_304, f_PR_perform_312, f_PR_perform_320, f_PR_perform_325, f_PR_perform_343, f_PR_perform_351, i_PR_perform_c1, i_PR_perform_c2, i_PR_perform_c3, i_PR_perform_c4, i_PR_perform_c5, i_PR_perform_c6, i_PR_perform_c7, i_PR_perform_c8, i_PR_perform_c9, i_PR_perform_c10]
theorem pm_17 (τ : MS) (i : Int32) (hop : (Int32.toUInt32 i >>> (Int32.toUInt32 (26 : Int32) &&& Int32.toUInt32 31)).toInt32 = 17) : f_MO_perform τ i = f_MO_other τ 17 := by
  unfold f_MO_perform
  simp (decide := true) only [hop, f_MO_within, zb, reduceIte, f_MO_perform_99, f_MO_perform_146, i_MO_perform_c1, i_MO_perform_c2, i_MO_perform_c3, i_MO_perform_c4, i_MO_perform_c5, i_MO_perform_c6, i_MO_perform_c7, i_MO_perform_c8]
theorem pf_17 (h : R1 σ τ) (hn : m_slot τ = false → m_next τ = m_pc τ + 4) (hop : f_CO_op σ = 17) : Post (f_PR_perform σ 17) (f_MO_perform τ (x_instr σ)) := by
  rw [pc_17, pm_17 τ _ hop]
  rw [show f_FA_noCoprocessor σ 1 = 43 by unfold f_FA_noCoprocessor; decide]
  exact oth_17 h
theorem pc_18 (σ : XS) : f_PR_perform σ 18 = (σ, f_FA_noCoprocessor σ 2) := by
  unfold f_PR_perform
  simp (decide := true) only [reduceIte, f_PR_perform_296, f_PR_perform_304, f_PR_perform_312, f_PR_perform_320, f_PR_perform_325, f_PR_perform_343, f_PR_perform_351, i_PR_perform_c1, i_PR_perform_c2, i_PR_perform_c3, i_PR_perform_c4, i_PR_perform_c5, i_PR_perform_c6, i_PR_perform_c7, i_PR_perform_c8, i_PR_perform_c9, i_PR_perform_c10]
theorem pm_18 (τ : MS) (i : Int32) (hop : (Int32.toUInt32 i >>> (Int32.toUInt32 (26 : Int32) &&& Int32.toUInt32 31)).toInt32 = 18) : f_MO_perform τ i = f_MO_other τ 18 := by
  unfold f_MO_perform
  simp (decide := true) only [hop, f_MO_within, zb, reduceIte, f_MO_perform_99, f_MO_perform_146, i_MO_perform_c1, i_MO_perform_c2, i_MO_perform_c3, i_MO_perform_c4, i_MO_perform_c5, i_MO_perform_c6, i_MO_perform_c7, i_MO_perform_c8]
theorem pf_18 (h : R1 σ τ) (hn : m_slot τ = false → m_next τ = m_pc τ + 4) (hop : f_CO_op σ = 18) : Post (f_PR_perform σ 18) (f_MO_perform τ (x_instr σ)) := by
  rw [pc_18, pm_18 τ _ hop]
  rw [show f_FA_noCoprocessor σ 2 = 75 by unfold f_FA_noCoprocessor; decide]
  exact oth_18 h
theorem pc_19 (σ : XS) : f_PR_perform σ 19 = (σ, f_FA_noCoprocessor σ 3) := by
  unfold f_PR_perform
  simp (decide := true) only [reduceIte, f_PR_perform_296, f_PR_perform_304, f_PR_perform_312, f_PR_perform_320, f_PR_perform_325, f_PR_perform_343, f_PR_perform_351, i_PR_perform_c1, i_PR_perform_c2, i_PR_perform_c3, i_PR_perform_c4, i_PR_perform_c5, i_PR_perform_c6, i_PR_perform_c7, i_PR_perform_c8, i_PR_perform_c9, i_PR_perform_c10]
theorem pm_19 (τ : MS) (i : Int32) (hop : (Int32.toUInt32 i >>> (Int32.toUInt32 (26 : Int32) &&& Int32.toUInt32 31)).toInt32 = 19) : f_MO_perform τ i = f_MO_other τ 19 := by
  unfold f_MO_perform
  simp (decide := true) only [hop, f_MO_within, zb, reduceIte, f_MO_perform_99, f_MO_perform_146, i_MO_perform_c1, i_MO_perform_c2, i_MO_perform_c3, i_MO_perform_c4, i_MO_perform_c5, i_MO_perform_c6, i_MO_perform_c7, i_MO_perform_c8]
theorem pf_19 (h : R1 σ τ) (hn : m_slot τ = false → m_next τ = m_pc τ + 4) (hop : f_CO_op σ = 19) : Post (f_PR_perform σ 19) (f_MO_perform τ (x_instr σ)) := by
  rw [pc_19, pm_19 τ _ hop]
  rw [show f_FA_noCoprocessor σ 3 = 107 by unfold f_FA_noCoprocessor; decide]
  exact oth_19 h
theorem pc_20 (σ : XS) : f_PR_perform σ 20 = f_BR_byComparison σ := by
  unfold f_PR_perform
  simp (decide := true) only [reduceIte, f_PR_perform_296, f_PR_perform_304, f_PR_perform_312, f_PR_perform_320, f_PR_perform_325, f_PR_perform_343, f_PR_perform_351, i_PR_perform_c1, i_PR_perform_c2, i_PR_perform_c3, i_PR_perform_c4, i_PR_perform_c5, i_PR_perform_c6, i_PR_perform_c7, i_PR_perform_c8, i_PR_perform_c9, i_PR_perform_c10]
theorem pm_20 (τ : MS) (i : Int32) (hop : (Int32.toUInt32 i >>> (Int32.toUInt32 (26 : Int32) &&& Int32.toUInt32 31)).toInt32 = 20) : f_MO_perform τ i = f_MO_branches τ i 20 (m_r τ (Int32.toNatClampNeg ((i >>> ((21 : Int32) &&& 31)) &&& (31 : Int32)))) (m_r τ (Int32.toNatClampNeg ((i >>> ((16 : Int32) &&& 31)) &&& (31 : Int32)))) ((i <<< ((16 : Int32) &&& 31)) >>> ((16 : Int32) &&& 31)) := by
  unfold f_MO_perform
  simp (decide := true) only [hop, f_MO_within, zb, reduceIte, f_MO_perform_99, f_MO_perform_146, i_MO_perform_c1, i_MO_perform_c2, i_MO_perform_c3, i_MO_perform_c4, i_MO_perform_c5, i_MO_perform_c6, i_MO_perform_c7, i_MO_perform_c8]
theorem pf_20 (h : R1 σ τ) (hn : m_slot τ = false → m_next τ = m_pc τ + 4) (hop : f_CO_op σ = 20) : Post (f_PR_perform σ 20) (f_MO_perform τ (x_instr σ)) := by
  rw [pc_20, pm_20 τ _ hop, e_rs, s_eq h.1, e_rt, t_eq h.1, e_imm]
  exact brs_20 h hn hop
theorem pc_21 (σ : XS) : f_PR_perform σ 21 = f_BR_byComparison σ := by
  unfold f_PR_perform
  simp (decide := true) only [reduceIte, f_PR_perform_296, f_PR_perform_304, f_PR_perform_312, f_PR_perform_320, f_PR_perform_325, f_PR_perform_343, f_PR_perform_351, i_PR_perform_c1, i_PR_perform_c2, i_PR_perform_c3, i_PR_perform_c4, i_PR_perform_c5, i_PR_perform_c6, i_PR_perform_c7, i_PR_perform_c8, i_PR_perform_c9, i_PR_perform_c10]
theorem pm_21 (τ : MS) (i : Int32) (hop : (Int32.toUInt32 i >>> (Int32.toUInt32 (26 : Int32) &&& Int32.toUInt32 31)).toInt32 = 21) : f_MO_perform τ i = f_MO_branches τ i 21 (m_r τ (Int32.toNatClampNeg ((i >>> ((21 : Int32) &&& 31)) &&& (31 : Int32)))) (m_r τ (Int32.toNatClampNeg ((i >>> ((16 : Int32) &&& 31)) &&& (31 : Int32)))) ((i <<< ((16 : Int32) &&& 31)) >>> ((16 : Int32) &&& 31)) := by
  unfold f_MO_perform
  simp (decide := true) only [hop, f_MO_within, zb, reduceIte, f_MO_perform_99, f_MO_perform_146, i_MO_perform_c1, i_MO_perform_c2, i_MO_perform_c3, i_MO_perform_c4, i_MO_perform_c5, i_MO_perform_c6, i_MO_perform_c7, i_MO_perform_c8]
theorem pf_21 (h : R1 σ τ) (hn : m_slot τ = false → m_next τ = m_pc τ + 4) (hop : f_CO_op σ = 21) : Post (f_PR_perform σ 21) (f_MO_perform τ (x_instr σ)) := by
  rw [pc_21, pm_21 τ _ hop, e_rs, s_eq h.1, e_rt, t_eq h.1, e_imm]
  exact brs_21 h hn hop
theorem pc_22 (σ : XS) : f_PR_perform σ 22 = f_BR_byComparison σ := by
  unfold f_PR_perform
  simp (decide := true) only [reduceIte, f_PR_perform_296, f_PR_perform_304, f_PR_perform_312, f_PR_perform_320, f_PR_perform_325, f_PR_perform_343, f_PR_perform_351, i_PR_perform_c1, i_PR_perform_c2, i_PR_perform_c3, i_PR_perform_c4, i_PR_perform_c5, i_PR_perform_c6, i_PR_perform_c7, i_PR_perform_c8, i_PR_perform_c9, i_PR_perform_c10]
theorem pm_22 (τ : MS) (i : Int32) (hop : (Int32.toUInt32 i >>> (Int32.toUInt32 (26 : Int32) &&& Int32.toUInt32 31)).toInt32 = 22) : f_MO_perform τ i = f_MO_branches τ i 22 (m_r τ (Int32.toNatClampNeg ((i >>> ((21 : Int32) &&& 31)) &&& (31 : Int32)))) (m_r τ (Int32.toNatClampNeg ((i >>> ((16 : Int32) &&& 31)) &&& (31 : Int32)))) ((i <<< ((16 : Int32) &&& 31)) >>> ((16 : Int32) &&& 31)) := by
  unfold f_MO_perform
  simp (decide := true) only [hop, f_MO_within, zb, reduceIte, f_MO_perform_99, f_MO_perform_146, i_MO_perform_c1, i_MO_perform_c2, i_MO_perform_c3, i_MO_perform_c4, i_MO_perform_c5, i_MO_perform_c6, i_MO_perform_c7, i_MO_perform_c8]
theorem pf_22 (h : R1 σ τ) (hn : m_slot τ = false → m_next τ = m_pc τ + 4) (hop : f_CO_op σ = 22) : Post (f_PR_perform σ 22) (f_MO_perform τ (x_instr σ)) := by
  rw [pc_22, pm_22 τ _ hop, e_rs, s_eq h.1, e_rt, t_eq h.1, e_imm]
  exact brs_22 h hn hop
theorem pc_23 (σ : XS) : f_PR_perform σ 23 = f_BR_byComparison σ := by
  unfold f_PR_perform
  simp (decide := true) only [reduceIte, f_PR_perform_296, f_PR_perform_304, f_PR_perform_312, f_PR_perform_320, f_PR_perform_325, f_PR_perform_343, f_PR_perform_351, i_PR_perform_c1, i_PR_perform_c2, i_PR_perform_c3, i_PR_perform_c4, i_PR_perform_c5, i_PR_perform_c6, i_PR_perform_c7, i_PR_perform_c8, i_PR_perform_c9, i_PR_perform_c10]
theorem pm_23 (τ : MS) (i : Int32) (hop : (Int32.toUInt32 i >>> (Int32.toUInt32 (26 : Int32) &&& Int32.toUInt32 31)).toInt32 = 23) : f_MO_perform τ i = f_MO_branches τ i 23 (m_r τ (Int32.toNatClampNeg ((i >>> ((21 : Int32) &&& 31)) &&& (31 : Int32)))) (m_r τ (Int32.toNatClampNeg ((i >>> ((16 : Int32) &&& 31)) &&& (31 : Int32)))) ((i <<< ((16 : Int32) &&& 31)) >>> ((16 : Int32) &&& 31)) := by
  unfold f_MO_perform
  simp (decide := true) only [hop, f_MO_within, zb, reduceIte, f_MO_perform_99, f_MO_perform_146, i_MO_perform_c1, i_MO_perform_c2, i_MO_perform_c3, i_MO_perform_c4, i_MO_perform_c5, i_MO_perform_c6, i_MO_perform_c7, i_MO_perform_c8]
theorem pf_23 (h : R1 σ τ) (hn : m_slot τ = false → m_next τ = m_pc τ + 4) (hop : f_CO_op σ = 23) : Post (f_PR_perform σ 23) (f_MO_perform τ (x_instr σ)) := by
  rw [pc_23, pm_23 τ _ hop, e_rs, s_eq h.1, e_rt, t_eq h.1, e_imm]
  exact brs_23 h hn hop
theorem pc_24 (σ : XS) : f_PR_perform σ 24 = (σ, (10 : Int32)) := by
  unfold f_PR_perform
  simp (decide := true) only [reduceIte, f_PR_perform_296, f_PR_perform_304, f_PR_perform_312, f_PR_perform_320, f_PR_perform_325, f_PR_perform_343, f_PR_perform_351, i_PR_perform_c1, i_PR_perform_c2, i_PR_perform_c3, i_PR_perform_c4, i_PR_perform_c5, i_PR_perform_c6, i_PR_perform_c7, i_PR_perform_c8, i_PR_perform_c9, i_PR_perform_c10]
theorem pm_24 (τ : MS) (i : Int32) (hop : (Int32.toUInt32 i >>> (Int32.toUInt32 (26 : Int32) &&& Int32.toUInt32 31)).toInt32 = 24) : f_MO_perform τ i = f_MO_other τ 24 := by
  unfold f_MO_perform
  simp (decide := true) only [hop, f_MO_within, zb, reduceIte, f_MO_perform_99, f_MO_perform_146, i_MO_perform_c1, i_MO_perform_c2, i_MO_perform_c3, i_MO_perform_c4, i_MO_perform_c5, i_MO_perform_c6, i_MO_perform_c7, i_MO_perform_c8]
theorem pf_24 (h : R1 σ τ) (hn : m_slot τ = false → m_next τ = m_pc τ + 4) (hop : f_CO_op σ = 24) : Post (f_PR_perform σ 24) (f_MO_perform τ (x_instr σ)) := by
  rw [pc_24, pm_24 τ _ hop]
  exact oth_24 h
theorem pc_25 (σ : XS) : f_PR_perform σ 25 = (σ, (10 : Int32)) := by
  unfold f_PR_perform
  simp (decide := true) only [reduceIte, f_PR_perform_296, f_PR_perform_304, f_PR_perform_312, f_PR_perform_320, f_PR_perform_325, f_PR_perform_343, f_PR_perform_351, i_PR_perform_c1, i_PR_perform_c2, i_PR_perform_c3, i_PR_perform_c4, i_PR_perform_c5, i_PR_perform_c6, i_PR_perform_c7, i_PR_perform_c8, i_PR_perform_c9, i_PR_perform_c10]
theorem pm_25 (τ : MS) (i : Int32) (hop : (Int32.toUInt32 i >>> (Int32.toUInt32 (26 : Int32) &&& Int32.toUInt32 31)).toInt32 = 25) : f_MO_perform τ i = f_MO_other τ 25 := by
  unfold f_MO_perform
  simp (decide := true) only [hop, f_MO_within, zb, reduceIte, f_MO_perform_99, f_MO_perform_146, i_MO_perform_c1, i_MO_perform_c2, i_MO_perform_c3, i_MO_perform_c4, i_MO_perform_c5, i_MO_perform_c6, i_MO_perform_c7, i_MO_perform_c8]
theorem pf_25 (h : R1 σ τ) (hn : m_slot τ = false → m_next τ = m_pc τ + 4) (hop : f_CO_op σ = 25) : Post (f_PR_perform σ 25) (f_MO_perform τ (x_instr σ)) := by
  rw [pc_25, pm_25 τ _ hop]
  exact oth_25 h
theorem pc_26 (σ : XS) : f_PR_perform σ 26 = (σ, (10 : Int32)) := by
  unfold f_PR_perform
  simp (decide := true) only [reduceIte, f_PR_perform_296, f_PR_perform_304, f_PR_perform_312, f_PR_perform_320, f_PR_perform_325, f_PR_perform_343, f_PR_perform_351, i_PR_perform_c1, i_PR_perform_c2, i_PR_perform_c3, i_PR_perform_c4, i_PR_perform_c5, i_PR_perform_c6, i_PR_perform_c7, i_PR_perform_c8, i_PR_perform_c9, i_PR_perform_c10]
theorem pm_26 (τ : MS) (i : Int32) (hop : (Int32.toUInt32 i >>> (Int32.toUInt32 (26 : Int32) &&& Int32.toUInt32 31)).toInt32 = 26) : f_MO_perform τ i = f_MO_other τ 26 := by
  unfold f_MO_perform
  simp (decide := true) only [hop, f_MO_within, zb, reduceIte, f_MO_perform_99, f_MO_perform_146, i_MO_perform_c1, i_MO_perform_c2, i_MO_perform_c3, i_MO_perform_c4, i_MO_perform_c5, i_MO_perform_c6, i_MO_perform_c7, i_MO_perform_c8]
theorem pf_26 (h : R1 σ τ) (hn : m_slot τ = false → m_next τ = m_pc τ + 4) (hop : f_CO_op σ = 26) : Post (f_PR_perform σ 26) (f_MO_perform τ (x_instr σ)) := by
  rw [pc_26, pm_26 τ _ hop]
  exact oth_26 h
theorem pc_27 (σ : XS) : f_PR_perform σ 27 = (σ, (10 : Int32)) := by
  unfold f_PR_perform
  simp (decide := true) only [reduceIte, f_PR_perform_296, f_PR_perform_304, f_PR_perform_312, f_PR_perform_320, f_PR_perform_325, f_PR_perform_343, f_PR_perform_351, i_PR_perform_c1, i_PR_perform_c2, i_PR_perform_c3, i_PR_perform_c4, i_PR_perform_c5, i_PR_perform_c6, i_PR_perform_c7, i_PR_perform_c8, i_PR_perform_c9, i_PR_perform_c10]
theorem pm_27 (τ : MS) (i : Int32) (hop : (Int32.toUInt32 i >>> (Int32.toUInt32 (26 : Int32) &&& Int32.toUInt32 31)).toInt32 = 27) : f_MO_perform τ i = f_MO_other τ 27 := by
  unfold f_MO_perform
  simp (decide := true) only [hop, f_MO_within, zb, reduceIte, f_MO_perform_99, f_MO_perform_146, i_MO_perform_c1, i_MO_perform_c2, i_MO_perform_c3, i_MO_perform_c4, i_MO_perform_c5, i_MO_perform_c6, i_MO_perform_c7, i_MO_perform_c8]
theorem pf_27 (h : R1 σ τ) (hn : m_slot τ = false → m_next τ = m_pc τ + 4) (hop : f_CO_op σ = 27) : Post (f_PR_perform σ 27) (f_MO_perform τ (x_instr σ)) := by
  rw [pc_27, pm_27 τ _ hop]
  exact oth_27 h
theorem pc_28 (σ : XS) : f_PR_perform σ 28 = f_AR_performOp1C σ := by
  unfold f_PR_perform
  simp (decide := true) only [reduceIte, f_PR_perform_296, f_PR_perform_304, f_PR_perform_312, f_PR_perform_320, f_PR_perform_325, f_PR_perform_343, f_PR_perform_351, i_PR_perform_c1, i_PR_perform_c2, i_PR_perform_c3, i_PR_perform_c4, i_PR_perform_c5, i_PR_perform_c6, i_PR_perform_c7, i_PR_perform_c8, i_PR_perform_c9, i_PR_perform_c10]
theorem pm_28 (τ : MS) (i : Int32) (hop : (Int32.toUInt32 i >>> (Int32.toUInt32 (26 : Int32) &&& Int32.toUInt32 31)).toInt32 = 28) : f_MO_perform τ i = f_MO_multiplies τ i (m_r τ (Int32.toNatClampNeg ((i >>> ((21 : Int32) &&& 31)) &&& (31 : Int32)))) (m_r τ (Int32.toNatClampNeg ((i >>> ((16 : Int32) &&& 31)) &&& (31 : Int32)))) := by
  unfold f_MO_perform
  simp (decide := true) only [hop, f_MO_within, zb, reduceIte, f_MO_perform_99, f_MO_perform_146, i_MO_perform_c1, i_MO_perform_c2, i_MO_perform_c3, i_MO_perform_c4, i_MO_perform_c5, i_MO_perform_c6, i_MO_perform_c7, i_MO_perform_c8]
theorem pf_28 (h : R1 σ τ) (hn : m_slot τ = false → m_next τ = m_pc τ + 4) (hop : f_CO_op σ = 28) : Post (f_PR_perform σ 28) (f_MO_perform τ (x_instr σ)) := by
  rw [pc_28, pm_28 τ _ hop, e_rs, s_eq h.1, e_rt, t_eq h.1]
  exact mul_ag h
theorem pc_29 (σ : XS) : f_PR_perform σ 29 = (σ, (10 : Int32)) := by
  unfold f_PR_perform
  simp (decide := true) only [reduceIte, f_PR_perform_296, f_PR_perform_304, f_PR_perform_312, f_PR_perform_320, f_PR_perform_325, f_PR_perform_343, f_PR_perform_351, i_PR_perform_c1, i_PR_perform_c2, i_PR_perform_c3, i_PR_perform_c4, i_PR_perform_c5, i_PR_perform_c6, i_PR_perform_c7, i_PR_perform_c8, i_PR_perform_c9, i_PR_perform_c10]
theorem pm_29 (τ : MS) (i : Int32) (hop : (Int32.toUInt32 i >>> (Int32.toUInt32 (26 : Int32) &&& Int32.toUInt32 31)).toInt32 = 29) : f_MO_perform τ i = f_MO_other τ 29 := by
  unfold f_MO_perform
  simp (decide := true) only [hop, f_MO_within, zb, reduceIte, f_MO_perform_99, f_MO_perform_146, i_MO_perform_c1, i_MO_perform_c2, i_MO_perform_c3, i_MO_perform_c4, i_MO_perform_c5, i_MO_perform_c6, i_MO_perform_c7, i_MO_perform_c8]
theorem pf_29 (h : R1 σ τ) (hn : m_slot τ = false → m_next τ = m_pc τ + 4) (hop : f_CO_op σ = 29) : Post (f_PR_perform σ 29) (f_MO_perform τ (x_instr σ)) := by
  rw [pc_29, pm_29 τ _ hop]
  exact oth_29 h
theorem pc_30 (σ : XS) : f_PR_perform σ 30 = (σ, (10 : Int32)) := by
  unfold f_PR_perform
  simp (decide := true) only [reduceIte, f_PR_perform_296, f_PR_perform_304, f_PR_perform_312, f_PR_perform_320, f_PR_perform_325, f_PR_perform_343, f_PR_perform_351, i_PR_perform_c1, i_PR_perform_c2, i_PR_perform_c3, i_PR_perform_c4, i_PR_perform_c5, i_PR_perform_c6, i_PR_perform_c7, i_PR_perform_c8, i_PR_perform_c9, i_PR_perform_c10]
theorem pm_30 (τ : MS) (i : Int32) (hop : (Int32.toUInt32 i >>> (Int32.toUInt32 (26 : Int32) &&& Int32.toUInt32 31)).toInt32 = 30) : f_MO_perform τ i = f_MO_other τ 30 := by
  unfold f_MO_perform
  simp (decide := true) only [hop, f_MO_within, zb, reduceIte, f_MO_perform_99, f_MO_perform_146, i_MO_perform_c1, i_MO_perform_c2, i_MO_perform_c3, i_MO_perform_c4, i_MO_perform_c5, i_MO_perform_c6, i_MO_perform_c7, i_MO_perform_c8]
theorem pf_30 (h : R1 σ τ) (hn : m_slot τ = false → m_next τ = m_pc τ + 4) (hop : f_CO_op σ = 30) : Post (f_PR_perform σ 30) (f_MO_perform τ (x_instr σ)) := by
  rw [pc_30, pm_30 τ _ hop]
  exact oth_30 h
theorem pc_31 (σ : XS) : f_PR_perform σ 31 = (σ, (10 : Int32)) := by
  unfold f_PR_perform
  simp (decide := true) only [reduceIte, f_PR_perform_296, f_PR_perform_304, f_PR_perform_312, f_PR_perform_320, f_PR_perform_325, f_PR_perform_343, f_PR_perform_351, i_PR_perform_c1, i_PR_perform_c2, i_PR_perform_c3, i_PR_perform_c4, i_PR_perform_c5, i_PR_perform_c6, i_PR_perform_c7, i_PR_perform_c8, i_PR_perform_c9, i_PR_perform_c10]
theorem pm_31 (τ : MS) (i : Int32) (hop : (Int32.toUInt32 i >>> (Int32.toUInt32 (26 : Int32) &&& Int32.toUInt32 31)).toInt32 = 31) : f_MO_perform τ i = f_MO_other τ 31 := by
  unfold f_MO_perform
  simp (decide := true) only [hop, f_MO_within, zb, reduceIte, f_MO_perform_99, f_MO_perform_146, i_MO_perform_c1, i_MO_perform_c2, i_MO_perform_c3, i_MO_perform_c4, i_MO_perform_c5, i_MO_perform_c6, i_MO_perform_c7, i_MO_perform_c8]
theorem pf_31 (h : R1 σ τ) (hn : m_slot τ = false → m_next τ = m_pc τ + 4) (hop : f_CO_op σ = 31) : Post (f_PR_perform σ 31) (f_MO_perform τ (x_instr σ)) := by
  rw [pc_31, pm_31 τ _ hop]
  exact oth_31 h
theorem pc_32 (σ : XS) : f_PR_perform σ 32 = f_LS_load σ := by
  unfold f_PR_perform
  simp (decide := true) only [reduceIte, f_PR_perform_296, f_PR_perform_304, f_PR_perform_312, f_PR_perform_320, f_PR_perform_325, f_PR_perform_343, f_PR_perform_351, i_PR_perform_c1, i_PR_perform_c2, i_PR_perform_c3, i_PR_perform_c4, i_PR_perform_c5, i_PR_perform_c6, i_PR_perform_c7, i_PR_perform_c8, i_PR_perform_c9, i_PR_perform_c10]
theorem pm_32 (τ : MS) (i : Int32) (hop : (Int32.toUInt32 i >>> (Int32.toUInt32 (26 : Int32) &&& Int32.toUInt32 31)).toInt32 = 32) : f_MO_perform τ i = f_MO_memories τ 32 ((i >>> ((16 : Int32) &&& 31)) &&& (31 : Int32)) ((m_r τ (Int32.toNatClampNeg ((i >>> ((21 : Int32) &&& 31)) &&& (31 : Int32)))) + ((i <<< ((16 : Int32) &&& 31)) >>> ((16 : Int32) &&& 31))) := by
  unfold f_MO_perform
  simp (decide := true) only [hop, f_MO_within, zb, reduceIte, f_MO_perform_99, f_MO_perform_146, i_MO_perform_c1, i_MO_perform_c2, i_MO_perform_c3, i_MO_perform_c4, i_MO_perform_c5, i_MO_perform_c6, i_MO_perform_c7, i_MO_perform_c8]
theorem pf_32 (h : R1 σ τ) (hn : m_slot τ = false → m_next τ = m_pc τ + 4) (hop : f_CO_op σ = 32) : Post (f_PR_perform σ 32) (f_MO_perform τ (x_instr σ)) := by
  rw [pc_32, pm_32 τ _ hop, e_rs, s_eq h.1, e_rt, e_imm]
  exact (mem_32 h hop).2
theorem pc_33 (σ : XS) : f_PR_perform σ 33 = f_LS_load σ := by
  unfold f_PR_perform
  simp (decide := true) only [reduceIte, f_PR_perform_296, f_PR_perform_304, f_PR_perform_312, f_PR_perform_320, f_PR_perform_325, f_PR_perform_343, f_PR_perform_351, i_PR_perform_c1, i_PR_perform_c2, i_PR_perform_c3, i_PR_perform_c4, i_PR_perform_c5, i_PR_perform_c6, i_PR_perform_c7, i_PR_perform_c8, i_PR_perform_c9, i_PR_perform_c10]
theorem pm_33 (τ : MS) (i : Int32) (hop : (Int32.toUInt32 i >>> (Int32.toUInt32 (26 : Int32) &&& Int32.toUInt32 31)).toInt32 = 33) : f_MO_perform τ i = f_MO_memories τ 33 ((i >>> ((16 : Int32) &&& 31)) &&& (31 : Int32)) ((m_r τ (Int32.toNatClampNeg ((i >>> ((21 : Int32) &&& 31)) &&& (31 : Int32)))) + ((i <<< ((16 : Int32) &&& 31)) >>> ((16 : Int32) &&& 31))) := by
  unfold f_MO_perform
  simp (decide := true) only [hop, f_MO_within, zb, reduceIte, f_MO_perform_99, f_MO_perform_146, i_MO_perform_c1, i_MO_perform_c2, i_MO_perform_c3, i_MO_perform_c4, i_MO_perform_c5, i_MO_perform_c6, i_MO_perform_c7, i_MO_perform_c8]
theorem pf_33 (h : R1 σ τ) (hn : m_slot τ = false → m_next τ = m_pc τ + 4) (hop : f_CO_op σ = 33) : Post (f_PR_perform σ 33) (f_MO_perform τ (x_instr σ)) := by
  rw [pc_33, pm_33 τ _ hop, e_rs, s_eq h.1, e_rt, e_imm]
  exact (mem_33 h hop).2
theorem pc_34 (σ : XS) : f_PR_perform σ 34 = f_LS_load σ := by
  unfold f_PR_perform
  simp (decide := true) only [reduceIte, f_PR_perform_296, f_PR_perform_304, f_PR_perform_312, f_PR_perform_320, f_PR_perform_325, f_PR_perform_343, f_PR_perform_351, i_PR_perform_c1, i_PR_perform_c2, i_PR_perform_c3, i_PR_perform_c4, i_PR_perform_c5, i_PR_perform_c6, i_PR_perform_c7, i_PR_perform_c8, i_PR_perform_c9, i_PR_perform_c10]
theorem pm_34 (τ : MS) (i : Int32) (hop : (Int32.toUInt32 i >>> (Int32.toUInt32 (26 : Int32) &&& Int32.toUInt32 31)).toInt32 = 34) : f_MO_perform τ i = f_MO_memories τ 34 ((i >>> ((16 : Int32) &&& 31)) &&& (31 : Int32)) ((m_r τ (Int32.toNatClampNeg ((i >>> ((21 : Int32) &&& 31)) &&& (31 : Int32)))) + ((i <<< ((16 : Int32) &&& 31)) >>> ((16 : Int32) &&& 31))) := by
  unfold f_MO_perform
  simp (decide := true) only [hop, f_MO_within, zb, reduceIte, f_MO_perform_99, f_MO_perform_146, i_MO_perform_c1, i_MO_perform_c2, i_MO_perform_c3, i_MO_perform_c4, i_MO_perform_c5, i_MO_perform_c6, i_MO_perform_c7, i_MO_perform_c8]
theorem pf_34 (h : R1 σ τ) (hn : m_slot τ = false → m_next τ = m_pc τ + 4) (hop : f_CO_op σ = 34) : Post (f_PR_perform σ 34) (f_MO_perform τ (x_instr σ)) := by
  rw [pc_34, pm_34 τ _ hop, e_rs, s_eq h.1, e_rt, e_imm]
  exact (mem_34 h hop).2
theorem pc_35 (σ : XS) : f_PR_perform σ 35 = f_LS_load σ := by
  unfold f_PR_perform
  simp (decide := true) only [reduceIte, f_PR_perform_296, f_PR_perform_304, f_PR_perform_312, f_PR_perform_320, f_PR_perform_325, f_PR_perform_343, f_PR_perform_351, i_PR_perform_c1, i_PR_perform_c2, i_PR_perform_c3, i_PR_perform_c4, i_PR_perform_c5, i_PR_perform_c6, i_PR_perform_c7, i_PR_perform_c8, i_PR_perform_c9, i_PR_perform_c10]
theorem pm_35 (τ : MS) (i : Int32) (hop : (Int32.toUInt32 i >>> (Int32.toUInt32 (26 : Int32) &&& Int32.toUInt32 31)).toInt32 = 35) : f_MO_perform τ i = f_MO_memories τ 35 ((i >>> ((16 : Int32) &&& 31)) &&& (31 : Int32)) ((m_r τ (Int32.toNatClampNeg ((i >>> ((21 : Int32) &&& 31)) &&& (31 : Int32)))) + ((i <<< ((16 : Int32) &&& 31)) >>> ((16 : Int32) &&& 31))) := by
  unfold f_MO_perform
  simp (decide := true) only [hop, f_MO_within, zb, reduceIte, f_MO_perform_99, f_MO_perform_146, i_MO_perform_c1, i_MO_perform_c2, i_MO_perform_c3, i_MO_perform_c4, i_MO_perform_c5, i_MO_perform_c6, i_MO_perform_c7, i_MO_perform_c8]
theorem pf_35 (h : R1 σ τ) (hn : m_slot τ = false → m_next τ = m_pc τ + 4) (hop : f_CO_op σ = 35) : Post (f_PR_perform σ 35) (f_MO_perform τ (x_instr σ)) := by
  rw [pc_35, pm_35 τ _ hop, e_rs, s_eq h.1, e_rt, e_imm]
  exact (mem_35 h hop).2
theorem pc_36 (σ : XS) : f_PR_perform σ 36 = f_LS_load σ := by
  unfold f_PR_perform
  simp (decide := true) only [reduceIte, f_PR_perform_296, f_PR_perform_304, f_PR_perform_312, f_PR_perform_320, f_PR_perform_325, f_PR_perform_343, f_PR_perform_351, i_PR_perform_c1, i_PR_perform_c2, i_PR_perform_c3, i_PR_perform_c4, i_PR_perform_c5, i_PR_perform_c6, i_PR_perform_c7, i_PR_perform_c8, i_PR_perform_c9, i_PR_perform_c10]
theorem pm_36 (τ : MS) (i : Int32) (hop : (Int32.toUInt32 i >>> (Int32.toUInt32 (26 : Int32) &&& Int32.toUInt32 31)).toInt32 = 36) : f_MO_perform τ i = f_MO_memories τ 36 ((i >>> ((16 : Int32) &&& 31)) &&& (31 : Int32)) ((m_r τ (Int32.toNatClampNeg ((i >>> ((21 : Int32) &&& 31)) &&& (31 : Int32)))) + ((i <<< ((16 : Int32) &&& 31)) >>> ((16 : Int32) &&& 31))) := by
  unfold f_MO_perform
  simp (decide := true) only [hop, f_MO_within, zb, reduceIte, f_MO_perform_99, f_MO_perform_146, i_MO_perform_c1, i_MO_perform_c2, i_MO_perform_c3, i_MO_perform_c4, i_MO_perform_c5, i_MO_perform_c6, i_MO_perform_c7, i_MO_perform_c8]
theorem pf_36 (h : R1 σ τ) (hn : m_slot τ = false → m_next τ = m_pc τ + 4) (hop : f_CO_op σ = 36) : Post (f_PR_perform σ 36) (f_MO_perform τ (x_instr σ)) := by
  rw [pc_36, pm_36 τ _ hop, e_rs, s_eq h.1, e_rt, e_imm]
  exact (mem_36 h hop).2
theorem pc_37 (σ : XS) : f_PR_perform σ 37 = f_LS_load σ := by
  unfold f_PR_perform
  simp (decide := true) only [reduceIte, f_PR_perform_296, f_PR_perform_304, f_PR_perform_312, f_PR_perform_320, f_PR_perform_325, f_PR_perform_343, f_PR_perform_351, i_PR_perform_c1, i_PR_perform_c2, i_PR_perform_c3, i_PR_perform_c4, i_PR_perform_c5, i_PR_perform_c6, i_PR_perform_c7, i_PR_perform_c8, i_PR_perform_c9, i_PR_perform_c10]
theorem pm_37 (τ : MS) (i : Int32) (hop : (Int32.toUInt32 i >>> (Int32.toUInt32 (26 : Int32) &&& Int32.toUInt32 31)).toInt32 = 37) : f_MO_perform τ i = f_MO_memories τ 37 ((i >>> ((16 : Int32) &&& 31)) &&& (31 : Int32)) ((m_r τ (Int32.toNatClampNeg ((i >>> ((21 : Int32) &&& 31)) &&& (31 : Int32)))) + ((i <<< ((16 : Int32) &&& 31)) >>> ((16 : Int32) &&& 31))) := by
  unfold f_MO_perform
  simp (decide := true) only [hop, f_MO_within, zb, reduceIte, f_MO_perform_99, f_MO_perform_146, i_MO_perform_c1, i_MO_perform_c2, i_MO_perform_c3, i_MO_perform_c4, i_MO_perform_c5, i_MO_perform_c6, i_MO_perform_c7, i_MO_perform_c8]
theorem pf_37 (h : R1 σ τ) (hn : m_slot τ = false → m_next τ = m_pc τ + 4) (hop : f_CO_op σ = 37) : Post (f_PR_perform σ 37) (f_MO_perform τ (x_instr σ)) := by
  rw [pc_37, pm_37 τ _ hop, e_rs, s_eq h.1, e_rt, e_imm]
  exact (mem_37 h hop).2
theorem pc_38 (σ : XS) : f_PR_perform σ 38 = f_LS_load σ := by
  unfold f_PR_perform
  simp (decide := true) only [reduceIte, f_PR_perform_296, f_PR_perform_304, f_PR_perform_312, f_PR_perform_320, f_PR_perform_325, f_PR_perform_343, f_PR_perform_351, i_PR_perform_c1, i_PR_perform_c2, i_PR_perform_c3, i_PR_perform_c4, i_PR_perform_c5, i_PR_perform_c6, i_PR_perform_c7, i_PR_perform_c8, i_PR_perform_c9, i_PR_perform_c10]
theorem pm_38 (τ : MS) (i : Int32) (hop : (Int32.toUInt32 i >>> (Int32.toUInt32 (26 : Int32) &&& Int32.toUInt32 31)).toInt32 = 38) : f_MO_perform τ i = f_MO_memories τ 38 ((i >>> ((16 : Int32) &&& 31)) &&& (31 : Int32)) ((m_r τ (Int32.toNatClampNeg ((i >>> ((21 : Int32) &&& 31)) &&& (31 : Int32)))) + ((i <<< ((16 : Int32) &&& 31)) >>> ((16 : Int32) &&& 31))) := by
  unfold f_MO_perform
  simp (decide := true) only [hop, f_MO_within, zb, reduceIte, f_MO_perform_99, f_MO_perform_146, i_MO_perform_c1, i_MO_perform_c2, i_MO_perform_c3, i_MO_perform_c4, i_MO_perform_c5, i_MO_perform_c6, i_MO_perform_c7, i_MO_perform_c8]
theorem pf_38 (h : R1 σ τ) (hn : m_slot τ = false → m_next τ = m_pc τ + 4) (hop : f_CO_op σ = 38) : Post (f_PR_perform σ 38) (f_MO_perform τ (x_instr σ)) := by
  rw [pc_38, pm_38 τ _ hop, e_rs, s_eq h.1, e_rt, e_imm]
  exact (mem_38 h hop).2
theorem pc_39 (σ : XS) : f_PR_perform σ 39 = (σ, (10 : Int32)) := by
  unfold f_PR_perform
  simp (decide := true) only [reduceIte, f_PR_perform_296, f_PR_perform_304, f_PR_perform_312, f_PR_perform_320, f_PR_perform_325, f_PR_perform_343, f_PR_perform_351, i_PR_perform_c1, i_PR_perform_c2, i_PR_perform_c3, i_PR_perform_c4, i_PR_perform_c5, i_PR_perform_c6, i_PR_perform_c7, i_PR_perform_c8, i_PR_perform_c9, i_PR_perform_c10]
theorem pm_39 (τ : MS) (i : Int32) (hop : (Int32.toUInt32 i >>> (Int32.toUInt32 (26 : Int32) &&& Int32.toUInt32 31)).toInt32 = 39) : f_MO_perform τ i = f_MO_memories τ 39 ((i >>> ((16 : Int32) &&& 31)) &&& (31 : Int32)) ((m_r τ (Int32.toNatClampNeg ((i >>> ((21 : Int32) &&& 31)) &&& (31 : Int32)))) + ((i <<< ((16 : Int32) &&& 31)) >>> ((16 : Int32) &&& 31))) := by
  unfold f_MO_perform
  simp (decide := true) only [hop, f_MO_within, zb, reduceIte, f_MO_perform_99, f_MO_perform_146, i_MO_perform_c1, i_MO_perform_c2, i_MO_perform_c3, i_MO_perform_c4, i_MO_perform_c5, i_MO_perform_c6, i_MO_perform_c7, i_MO_perform_c8]
theorem mmo_39 (τ : MS) (rt a : Int32) : f_MO_memories τ 39 rt a = f_MO_other τ 39 := by
  have hwi : f_MO_within τ 39 40 46 = false := by
    unfold f_MO_within
    decide
  simp (decide := true) only [f_MO_memories, f_MO_memories_23, f_MO_memories_29, f_MO_memories_34, f_MO_memories_60, f_MO_memories_65, f_MO_memories_84, f_MO_memories_89, f_MO_memories_132, f_MO_memories_154, hwi, reduceIte, i_MO_memories_c1]
theorem pf_39 (h : R1 σ τ) (hn : m_slot τ = false → m_next τ = m_pc τ + 4) (hop : f_CO_op σ = 39) : Post (f_PR_perform σ 39) (f_MO_perform τ (x_instr σ)) := by
  rw [pc_39, pm_39 τ _ hop, e_rs, s_eq h.1, e_rt, e_imm]
  rw [mmo_39]
  exact oth_39 h
theorem pc_40 (σ : XS) : f_PR_perform σ 40 = f_LS_store σ := by
  unfold f_PR_perform
  simp (decide := true) only [reduceIte, f_PR_perform_296, f_PR_perform_304, f_PR_perform_312, f_PR_perform_320, f_PR_perform_325, f_PR_perform_343, f_PR_perform_351, i_PR_perform_c1, i_PR_perform_c2, i_PR_perform_c3, i_PR_perform_c4, i_PR_perform_c5, i_PR_perform_c6, i_PR_perform_c7, i_PR_perform_c8, i_PR_perform_c9, i_PR_perform_c10]
theorem pm_40 (τ : MS) (i : Int32) (hop : (Int32.toUInt32 i >>> (Int32.toUInt32 (26 : Int32) &&& Int32.toUInt32 31)).toInt32 = 40) : f_MO_perform τ i = f_MO_memories τ 40 ((i >>> ((16 : Int32) &&& 31)) &&& (31 : Int32)) ((m_r τ (Int32.toNatClampNeg ((i >>> ((21 : Int32) &&& 31)) &&& (31 : Int32)))) + ((i <<< ((16 : Int32) &&& 31)) >>> ((16 : Int32) &&& 31))) := by
  unfold f_MO_perform
  simp (decide := true) only [hop, f_MO_within, zb, reduceIte, f_MO_perform_99, f_MO_perform_146, i_MO_perform_c1, i_MO_perform_c2, i_MO_perform_c3, i_MO_perform_c4, i_MO_perform_c5, i_MO_perform_c6, i_MO_perform_c7, i_MO_perform_c8]
theorem pf_40 (h : R1 σ τ) (hn : m_slot τ = false → m_next τ = m_pc τ + 4) (hop : f_CO_op σ = 40) : Post (f_PR_perform σ 40) (f_MO_perform τ (x_instr σ)) := by
  rw [pc_40, pm_40 τ _ hop, e_rs, s_eq h.1, e_rt, e_imm]
  exact (mem_40 h hop).2
theorem pc_41 (σ : XS) : f_PR_perform σ 41 = f_LS_store σ := by
  unfold f_PR_perform
  simp (decide := true) only [reduceIte, f_PR_perform_296, f_PR_perform_304, f_PR_perform_312, f_PR_perform_320, f_PR_perform_325, f_PR_perform_343, f_PR_perform_351, i_PR_perform_c1, i_PR_perform_c2, i_PR_perform_c3, i_PR_perform_c4, i_PR_perform_c5, i_PR_perform_c6, i_PR_perform_c7, i_PR_perform_c8, i_PR_perform_c9, i_PR_perform_c10]
theorem pm_41 (τ : MS) (i : Int32) (hop : (Int32.toUInt32 i >>> (Int32.toUInt32 (26 : Int32) &&& Int32.toUInt32 31)).toInt32 = 41) : f_MO_perform τ i = f_MO_memories τ 41 ((i >>> ((16 : Int32) &&& 31)) &&& (31 : Int32)) ((m_r τ (Int32.toNatClampNeg ((i >>> ((21 : Int32) &&& 31)) &&& (31 : Int32)))) + ((i <<< ((16 : Int32) &&& 31)) >>> ((16 : Int32) &&& 31))) := by
  unfold f_MO_perform
  simp (decide := true) only [hop, f_MO_within, zb, reduceIte, f_MO_perform_99, f_MO_perform_146, i_MO_perform_c1, i_MO_perform_c2, i_MO_perform_c3, i_MO_perform_c4, i_MO_perform_c5, i_MO_perform_c6, i_MO_perform_c7, i_MO_perform_c8]
theorem pf_41 (h : R1 σ τ) (hn : m_slot τ = false → m_next τ = m_pc τ + 4) (hop : f_CO_op σ = 41) : Post (f_PR_perform σ 41) (f_MO_perform τ (x_instr σ)) := by
  rw [pc_41, pm_41 τ _ hop, e_rs, s_eq h.1, e_rt, e_imm]
  exact (mem_41 h hop).2
theorem pc_42 (σ : XS) : f_PR_perform σ 42 = f_LS_store σ := by
  unfold f_PR_perform
  simp (decide := true) only [reduceIte, f_PR_perform_296, f_PR_perform_304, f_PR_perform_312, f_PR_perform_320, f_PR_perform_325, f_PR_perform_343, f_PR_perform_351, i_PR_perform_c1, i_PR_perform_c2, i_PR_perform_c3, i_PR_perform_c4, i_PR_perform_c5, i_PR_perform_c6, i_PR_perform_c7, i_PR_perform_c8, i_PR_perform_c9, i_PR_perform_c10]
theorem pm_42 (τ : MS) (i : Int32) (hop : (Int32.toUInt32 i >>> (Int32.toUInt32 (26 : Int32) &&& Int32.toUInt32 31)).toInt32 = 42) : f_MO_perform τ i = f_MO_memories τ 42 ((i >>> ((16 : Int32) &&& 31)) &&& (31 : Int32)) ((m_r τ (Int32.toNatClampNeg ((i >>> ((21 : Int32) &&& 31)) &&& (31 : Int32)))) + ((i <<< ((16 : Int32) &&& 31)) >>> ((16 : Int32) &&& 31))) := by
  unfold f_MO_perform
  simp (decide := true) only [hop, f_MO_within, zb, reduceIte, f_MO_perform_99, f_MO_perform_146, i_MO_perform_c1, i_MO_perform_c2, i_MO_perform_c3, i_MO_perform_c4, i_MO_perform_c5, i_MO_perform_c6, i_MO_perform_c7, i_MO_perform_c8]
theorem pf_42 (h : R1 σ τ) (hn : m_slot τ = false → m_next τ = m_pc τ + 4) (hop : f_CO_op σ = 42) : Post (f_PR_perform σ 42) (f_MO_perform τ (x_instr σ)) := by
  rw [pc_42, pm_42 τ _ hop, e_rs, s_eq h.1, e_rt, e_imm]
  exact (mem_42 h hop).2
theorem pc_43 (σ : XS) : f_PR_perform σ 43 = f_LS_store σ := by
  unfold f_PR_perform
  simp (decide := true) only [reduceIte, f_PR_perform_296, f_PR_perform_304, f_PR_perform_312, f_PR_perform_320, f_PR_perform_325, f_PR_perform_343, f_PR_perform_351, i_PR_perform_c1, i_PR_perform_c2, i_PR_perform_c3, i_PR_perform_c4, i_PR_perform_c5, i_PR_perform_c6, i_PR_perform_c7, i_PR_perform_c8, i_PR_perform_c9, i_PR_perform_c10]
theorem pm_43 (τ : MS) (i : Int32) (hop : (Int32.toUInt32 i >>> (Int32.toUInt32 (26 : Int32) &&& Int32.toUInt32 31)).toInt32 = 43) : f_MO_perform τ i = f_MO_memories τ 43 ((i >>> ((16 : Int32) &&& 31)) &&& (31 : Int32)) ((m_r τ (Int32.toNatClampNeg ((i >>> ((21 : Int32) &&& 31)) &&& (31 : Int32)))) + ((i <<< ((16 : Int32) &&& 31)) >>> ((16 : Int32) &&& 31))) := by
  unfold f_MO_perform
  simp (decide := true) only [hop, f_MO_within, zb, reduceIte, f_MO_perform_99, f_MO_perform_146, i_MO_perform_c1, i_MO_perform_c2, i_MO_perform_c3, i_MO_perform_c4, i_MO_perform_c5, i_MO_perform_c6, i_MO_perform_c7, i_MO_perform_c8]
theorem pf_43 (h : R1 σ τ) (hn : m_slot τ = false → m_next τ = m_pc τ + 4) (hop : f_CO_op σ = 43) : Post (f_PR_perform σ 43) (f_MO_perform τ (x_instr σ)) := by
  rw [pc_43, pm_43 τ _ hop, e_rs, s_eq h.1, e_rt, e_imm]
  exact (mem_43 h hop).2
theorem pc_44 (σ : XS) : f_PR_perform σ 44 = (σ, (10 : Int32)) := by
  unfold f_PR_perform
  simp (decide := true) only [reduceIte, f_PR_perform_296, f_PR_perform_304, f_PR_perform_312, f_PR_perform_320, f_PR_perform_325, f_PR_perform_343, f_PR_perform_351, i_PR_perform_c1, i_PR_perform_c2, i_PR_perform_c3, i_PR_perform_c4, i_PR_perform_c5, i_PR_perform_c6, i_PR_perform_c7, i_PR_perform_c8, i_PR_perform_c9, i_PR_perform_c10]
theorem pm_44 (τ : MS) (i : Int32) (hop : (Int32.toUInt32 i >>> (Int32.toUInt32 (26 : Int32) &&& Int32.toUInt32 31)).toInt32 = 44) : f_MO_perform τ i = f_MO_memories τ 44 ((i >>> ((16 : Int32) &&& 31)) &&& (31 : Int32)) ((m_r τ (Int32.toNatClampNeg ((i >>> ((21 : Int32) &&& 31)) &&& (31 : Int32)))) + ((i <<< ((16 : Int32) &&& 31)) >>> ((16 : Int32) &&& 31))) := by
  unfold f_MO_perform
  simp (decide := true) only [hop, f_MO_within, zb, reduceIte, f_MO_perform_99, f_MO_perform_146, i_MO_perform_c1, i_MO_perform_c2, i_MO_perform_c3, i_MO_perform_c4, i_MO_perform_c5, i_MO_perform_c6, i_MO_perform_c7, i_MO_perform_c8]
theorem mmo_44 (τ : MS) (rt a : Int32) : f_MO_memories τ 44 rt a = f_MO_other τ 44 := by
  have hwi : f_MO_within τ 44 40 46 = true := by
    unfold f_MO_within
    decide
  simp (decide := true) only [f_MO_memories, f_MO_memories_23, f_MO_memories_29, f_MO_memories_34, f_MO_memories_60, f_MO_memories_65, f_MO_memories_84, f_MO_memories_89, f_MO_memories_132, f_MO_memories_154, hwi, reduceIte, i_MO_memories_c1]
theorem pf_44 (h : R1 σ τ) (hn : m_slot τ = false → m_next τ = m_pc τ + 4) (hop : f_CO_op σ = 44) : Post (f_PR_perform σ 44) (f_MO_perform τ (x_instr σ)) := by
  rw [pc_44, pm_44 τ _ hop, e_rs, s_eq h.1, e_rt, e_imm]
  rw [mmo_44]
  exact oth_44 h
theorem pc_45 (σ : XS) : f_PR_perform σ 45 = (σ, (10 : Int32)) := by
  unfold f_PR_perform
  simp (decide := true) only [reduceIte, f_PR_perform_296, f_PR_perform_304, f_PR_perform_312, f_PR_perform_320, f_PR_perform_325, f_PR_perform_343, f_PR_perform_351, i_PR_perform_c1, i_PR_perform_c2, i_PR_perform_c3, i_PR_perform_c4, i_PR_perform_c5, i_PR_perform_c6, i_PR_perform_c7, i_PR_perform_c8, i_PR_perform_c9, i_PR_perform_c10]
theorem pm_45 (τ : MS) (i : Int32) (hop : (Int32.toUInt32 i >>> (Int32.toUInt32 (26 : Int32) &&& Int32.toUInt32 31)).toInt32 = 45) : f_MO_perform τ i = f_MO_memories τ 45 ((i >>> ((16 : Int32) &&& 31)) &&& (31 : Int32)) ((m_r τ (Int32.toNatClampNeg ((i >>> ((21 : Int32) &&& 31)) &&& (31 : Int32)))) + ((i <<< ((16 : Int32) &&& 31)) >>> ((16 : Int32) &&& 31))) := by
  unfold f_MO_perform
  simp (decide := true) only [hop, f_MO_within, zb, reduceIte, f_MO_perform_99, f_MO_perform_146, i_MO_perform_c1, i_MO_perform_c2, i_MO_perform_c3, i_MO_perform_c4, i_MO_perform_c5, i_MO_perform_c6, i_MO_perform_c7, i_MO_perform_c8]
theorem mmo_45 (τ : MS) (rt a : Int32) : f_MO_memories τ 45 rt a = f_MO_other τ 45 := by
  have hwi : f_MO_within τ 45 40 46 = true := by
    unfold f_MO_within
    decide
  simp (decide := true) only [f_MO_memories, f_MO_memories_23, f_MO_memories_29, f_MO_memories_34, f_MO_memories_60, f_MO_memories_65, f_MO_memories_84, f_MO_memories_89, f_MO_memories_132, f_MO_memories_154, hwi, reduceIte, i_MO_memories_c1]
theorem pf_45 (h : R1 σ τ) (hn : m_slot τ = false → m_next τ = m_pc τ + 4) (hop : f_CO_op σ = 45) : Post (f_PR_perform σ 45) (f_MO_perform τ (x_instr σ)) := by
  rw [pc_45, pm_45 τ _ hop, e_rs, s_eq h.1, e_rt, e_imm]
  rw [mmo_45]
  exact oth_45 h
theorem pc_46 (σ : XS) : f_PR_perform σ 46 = f_LS_store σ := by
  unfold f_PR_perform
  simp (decide := true) only [reduceIte, f_PR_perform_296, f_PR_perform_304, f_PR_perform_312, f_PR_perform_320, f_PR_perform_325, f_PR_perform_343, f_PR_perform_351, i_PR_perform_c1, i_PR_perform_c2, i_PR_perform_c3, i_PR_perform_c4, i_PR_perform_c5, i_PR_perform_c6, i_PR_perform_c7, i_PR_perform_c8, i_PR_perform_c9, i_PR_perform_c10]
theorem pm_46 (τ : MS) (i : Int32) (hop : (Int32.toUInt32 i >>> (Int32.toUInt32 (26 : Int32) &&& Int32.toUInt32 31)).toInt32 = 46) : f_MO_perform τ i = f_MO_memories τ 46 ((i >>> ((16 : Int32) &&& 31)) &&& (31 : Int32)) ((m_r τ (Int32.toNatClampNeg ((i >>> ((21 : Int32) &&& 31)) &&& (31 : Int32)))) + ((i <<< ((16 : Int32) &&& 31)) >>> ((16 : Int32) &&& 31))) := by
  unfold f_MO_perform
  simp (decide := true) only [hop, f_MO_within, zb, reduceIte, f_MO_perform_99, f_MO_perform_146, i_MO_perform_c1, i_MO_perform_c2, i_MO_perform_c3, i_MO_perform_c4, i_MO_perform_c5, i_MO_perform_c6, i_MO_perform_c7, i_MO_perform_c8]
theorem pf_46 (h : R1 σ τ) (hn : m_slot τ = false → m_next τ = m_pc τ + 4) (hop : f_CO_op σ = 46) : Post (f_PR_perform σ 46) (f_MO_perform τ (x_instr σ)) := by
  rw [pc_46, pm_46 τ _ hop, e_rs, s_eq h.1, e_rt, e_imm]
  exact (mem_46 h hop).2
theorem pc_47 (σ : XS) : f_PR_perform σ 47 = f_CP_perform σ := by
  unfold f_PR_perform
  simp (decide := true) only [reduceIte, f_PR_perform_296, f_PR_perform_304, f_PR_perform_312, f_PR_perform_320, f_PR_perform_325, f_PR_perform_343, f_PR_perform_351, i_PR_perform_c1, i_PR_perform_c2, i_PR_perform_c3, i_PR_perform_c4, i_PR_perform_c5, i_PR_perform_c6, i_PR_perform_c7, i_PR_perform_c8, i_PR_perform_c9, i_PR_perform_c10]
theorem pm_47 (τ : MS) (i : Int32) (hop : (Int32.toUInt32 i >>> (Int32.toUInt32 (26 : Int32) &&& Int32.toUInt32 31)).toInt32 = 47) : f_MO_perform τ i = f_MO_system τ i 47 ((i >>> ((21 : Int32) &&& 31)) &&& (31 : Int32)) ((i >>> ((16 : Int32) &&& 31)) &&& (31 : Int32)) := by
  unfold f_MO_perform
  simp (decide := true) only [hop, f_MO_within, zb, reduceIte, f_MO_perform_99, f_MO_perform_146, i_MO_perform_c1, i_MO_perform_c2, i_MO_perform_c3, i_MO_perform_c4, i_MO_perform_c5, i_MO_perform_c6, i_MO_perform_c7, i_MO_perform_c8]
theorem pf_47 (h : R1 σ τ) (hn : m_slot τ = false → m_next τ = m_pc τ + 4) (hop : f_CO_op σ = 47) : Post (f_PR_perform σ 47) (f_MO_perform τ (x_instr σ)) := by
  rw [pc_47, pm_47 τ _ hop, e_rt, e_rs]
  exact (sys_ag h hop).2
theorem pc_48 (σ : XS) : f_PR_perform σ 48 = f_LS_load σ := by
  unfold f_PR_perform
  simp (decide := true) only [reduceIte, f_PR_perform_296, f_PR_perform_304, f_PR_perform_312, f_PR_perform_320, f_PR_perform_325, f_PR_perform_343, f_PR_perform_351, i_PR_perform_c1, i_PR_perform_c2, i_PR_perform_c3, i_PR_perform_c4, i_PR_perform_c5, i_PR_perform_c6, i_PR_perform_c7, i_PR_perform_c8, i_PR_perform_c9, i_PR_perform_c10]
theorem pm_48 (τ : MS) (i : Int32) (hop : (Int32.toUInt32 i >>> (Int32.toUInt32 (26 : Int32) &&& Int32.toUInt32 31)).toInt32 = 48) : f_MO_perform τ i = f_MO_memories τ 48 ((i >>> ((16 : Int32) &&& 31)) &&& (31 : Int32)) ((m_r τ (Int32.toNatClampNeg ((i >>> ((21 : Int32) &&& 31)) &&& (31 : Int32)))) + ((i <<< ((16 : Int32) &&& 31)) >>> ((16 : Int32) &&& 31))) := by
  unfold f_MO_perform
  simp (decide := true) only [hop, f_MO_within, zb, reduceIte, f_MO_perform_99, f_MO_perform_146, i_MO_perform_c1, i_MO_perform_c2, i_MO_perform_c3, i_MO_perform_c4, i_MO_perform_c5, i_MO_perform_c6, i_MO_perform_c7, i_MO_perform_c8]
theorem pf_48 (h : R1 σ τ) (hn : m_slot τ = false → m_next τ = m_pc τ + 4) (hop : f_CO_op σ = 48) : Post (f_PR_perform σ 48) (f_MO_perform τ (x_instr σ)) := by
  rw [pc_48, pm_48 τ _ hop, e_rs, s_eq h.1, e_rt, e_imm]
  exact (mem_48 h hop).2
theorem pc_49 (σ : XS) : f_PR_perform σ 49 = (σ, f_FA_noCoprocessor σ 1) := by
  unfold f_PR_perform
  simp (decide := true) only [reduceIte, f_PR_perform_296, f_PR_perform_304, f_PR_perform_312, f_PR_perform_320, f_PR_perform_325, f_PR_perform_343, f_PR_perform_351, i_PR_perform_c1, i_PR_perform_c2, i_PR_perform_c3, i_PR_perform_c4, i_PR_perform_c5, i_PR_perform_c6, i_PR_perform_c7, i_PR_perform_c8, i_PR_perform_c9, i_PR_perform_c10]
theorem pm_49 (τ : MS) (i : Int32) (hop : (Int32.toUInt32 i >>> (Int32.toUInt32 (26 : Int32) &&& Int32.toUInt32 31)).toInt32 = 49) : f_MO_perform τ i = f_MO_memories τ 49 ((i >>> ((16 : Int32) &&& 31)) &&& (31 : Int32)) ((m_r τ (Int32.toNatClampNeg ((i >>> ((21 : Int32) &&& 31)) &&& (31 : Int32)))) + ((i <<< ((16 : Int32) &&& 31)) >>> ((16 : Int32) &&& 31))) := by
  unfold f_MO_perform
  simp (decide := true) only [hop, f_MO_within, zb, reduceIte, f_MO_perform_99, f_MO_perform_146, i_MO_perform_c1, i_MO_perform_c2, i_MO_perform_c3, i_MO_perform_c4, i_MO_perform_c5, i_MO_perform_c6, i_MO_perform_c7, i_MO_perform_c8]
theorem mmo_49 (τ : MS) (rt a : Int32) : f_MO_memories τ 49 rt a = f_MO_other τ 49 := by
  have hwi : f_MO_within τ 49 40 46 = false := by
    unfold f_MO_within
    decide
  simp (decide := true) only [f_MO_memories, f_MO_memories_23, f_MO_memories_29, f_MO_memories_34, f_MO_memories_60, f_MO_memories_65, f_MO_memories_84, f_MO_memories_89, f_MO_memories_132, f_MO_memories_154, hwi, reduceIte, i_MO_memories_c1]
theorem pf_49 (h : R1 σ τ) (hn : m_slot τ = false → m_next τ = m_pc τ + 4) (hop : f_CO_op σ = 49) : Post (f_PR_perform σ 49) (f_MO_perform τ (x_instr σ)) := by
  rw [pc_49, pm_49 τ _ hop, e_rs, s_eq h.1, e_rt, e_imm]
  rw [mmo_49]
  rw [show f_FA_noCoprocessor σ 1 = 43 by unfold f_FA_noCoprocessor; decide]
  exact oth_49 h
theorem pc_50 (σ : XS) : f_PR_perform σ 50 = (σ, f_FA_noCoprocessor σ 2) := by
  unfold f_PR_perform
  simp (decide := true) only [reduceIte, f_PR_perform_296, f_PR_perform_304, f_PR_perform_312, f_PR_perform_320, f_PR_perform_325, f_PR_perform_343, f_PR_perform_351, i_PR_perform_c1, i_PR_perform_c2, i_PR_perform_c3, i_PR_perform_c4, i_PR_perform_c5, i_PR_perform_c6, i_PR_perform_c7, i_PR_perform_c8, i_PR_perform_c9, i_PR_perform_c10]
theorem pm_50 (τ : MS) (i : Int32) (hop : (Int32.toUInt32 i >>> (Int32.toUInt32 (26 : Int32) &&& Int32.toUInt32 31)).toInt32 = 50) : f_MO_perform τ i = f_MO_memories τ 50 ((i >>> ((16 : Int32) &&& 31)) &&& (31 : Int32)) ((m_r τ (Int32.toNatClampNeg ((i >>> ((21 : Int32) &&& 31)) &&& (31 : Int32)))) + ((i <<< ((16 : Int32) &&& 31)) >>> ((16 : Int32) &&& 31))) := by
  unfold f_MO_perform
  simp (decide := true) only [hop, f_MO_within, zb, reduceIte, f_MO_perform_99, f_MO_perform_146, i_MO_perform_c1, i_MO_perform_c2, i_MO_perform_c3, i_MO_perform_c4, i_MO_perform_c5, i_MO_perform_c6, i_MO_perform_c7, i_MO_perform_c8]
theorem mmo_50 (τ : MS) (rt a : Int32) : f_MO_memories τ 50 rt a = f_MO_other τ 50 := by
  have hwi : f_MO_within τ 50 40 46 = false := by
    unfold f_MO_within
    decide
  simp (decide := true) only [f_MO_memories, f_MO_memories_23, f_MO_memories_29, f_MO_memories_34, f_MO_memories_60, f_MO_memories_65, f_MO_memories_84, f_MO_memories_89, f_MO_memories_132, f_MO_memories_154, hwi, reduceIte, i_MO_memories_c1]
theorem pf_50 (h : R1 σ τ) (hn : m_slot τ = false → m_next τ = m_pc τ + 4) (hop : f_CO_op σ = 50) : Post (f_PR_perform σ 50) (f_MO_perform τ (x_instr σ)) := by
  rw [pc_50, pm_50 τ _ hop, e_rs, s_eq h.1, e_rt, e_imm]
  rw [mmo_50]
  rw [show f_FA_noCoprocessor σ 2 = 75 by unfold f_FA_noCoprocessor; decide]
  exact oth_50 h
theorem pc_51 (σ : XS) : f_PR_perform σ 51 = (σ, (-1 : Int32)) := by
  unfold f_PR_perform
  simp (decide := true) only [reduceIte, f_PR_perform_296, f_PR_perform_304, f_PR_perform_312, f_PR_perform_320, f_PR_perform_325, f_PR_perform_343, f_PR_perform_351, i_PR_perform_c1, i_PR_perform_c2, i_PR_perform_c3, i_PR_perform_c4, i_PR_perform_c5, i_PR_perform_c6, i_PR_perform_c7, i_PR_perform_c8, i_PR_perform_c9, i_PR_perform_c10]
theorem pm_51 (τ : MS) (i : Int32) (hop : (Int32.toUInt32 i >>> (Int32.toUInt32 (26 : Int32) &&& Int32.toUInt32 31)).toInt32 = 51) : f_MO_perform τ i = f_MO_memories τ 51 ((i >>> ((16 : Int32) &&& 31)) &&& (31 : Int32)) ((m_r τ (Int32.toNatClampNeg ((i >>> ((21 : Int32) &&& 31)) &&& (31 : Int32)))) + ((i <<< ((16 : Int32) &&& 31)) >>> ((16 : Int32) &&& 31))) := by
  unfold f_MO_perform
  simp (decide := true) only [hop, f_MO_within, zb, reduceIte, f_MO_perform_99, f_MO_perform_146, i_MO_perform_c1, i_MO_perform_c2, i_MO_perform_c3, i_MO_perform_c4, i_MO_perform_c5, i_MO_perform_c6, i_MO_perform_c7, i_MO_perform_c8]
theorem mmo_51 (τ : MS) (rt a : Int32) : f_MO_memories τ 51 rt a = τ := by
  have hwi : f_MO_within τ 51 40 46 = false := by
    unfold f_MO_within
    decide
  simp (decide := true) only [f_MO_memories, f_MO_memories_23, f_MO_memories_29, f_MO_memories_34, f_MO_memories_60, f_MO_memories_65, f_MO_memories_84, f_MO_memories_89, f_MO_memories_132, f_MO_memories_154, hwi, reduceIte, i_MO_memories_c1]
theorem pf_51 (h : R1 σ τ) (hn : m_slot τ = false → m_next τ = m_pc τ + 4) (hop : f_CO_op σ = 51) : Post (f_PR_perform σ 51) (f_MO_perform τ (x_instr σ)) := by
  rw [pc_51, pm_51 τ _ hop, e_rs, s_eq h.1, e_rt, e_imm]
  rw [mmo_51]
  exact Post_ok h
theorem pc_52 (σ : XS) : f_PR_perform σ 52 = (σ, (10 : Int32)) := by
  unfold f_PR_perform
  simp (decide := true) only [reduceIte, f_PR_perform_296, f_PR_perform_304, f_PR_perform_312, f_PR_perform_320, f_PR_perform_325, f_PR_perform_343, f_PR_perform_351, i_PR_perform_c1, i_PR_perform_c2, i_PR_perform_c3, i_PR_perform_c4, i_PR_perform_c5, i_PR_perform_c6, i_PR_perform_c7, i_PR_perform_c8, i_PR_perform_c9, i_PR_perform_c10]
theorem pm_52 (τ : MS) (i : Int32) (hop : (Int32.toUInt32 i >>> (Int32.toUInt32 (26 : Int32) &&& Int32.toUInt32 31)).toInt32 = 52) : f_MO_perform τ i = f_MO_memories τ 52 ((i >>> ((16 : Int32) &&& 31)) &&& (31 : Int32)) ((m_r τ (Int32.toNatClampNeg ((i >>> ((21 : Int32) &&& 31)) &&& (31 : Int32)))) + ((i <<< ((16 : Int32) &&& 31)) >>> ((16 : Int32) &&& 31))) := by
  unfold f_MO_perform
  simp (decide := true) only [hop, f_MO_within, zb, reduceIte, f_MO_perform_99, f_MO_perform_146, i_MO_perform_c1, i_MO_perform_c2, i_MO_perform_c3, i_MO_perform_c4, i_MO_perform_c5, i_MO_perform_c6, i_MO_perform_c7, i_MO_perform_c8]
theorem mmo_52 (τ : MS) (rt a : Int32) : f_MO_memories τ 52 rt a = f_MO_other τ 52 := by
  have hwi : f_MO_within τ 52 40 46 = false := by
    unfold f_MO_within
    decide
  simp (decide := true) only [f_MO_memories, f_MO_memories_23, f_MO_memories_29, f_MO_memories_34, f_MO_memories_60, f_MO_memories_65, f_MO_memories_84, f_MO_memories_89, f_MO_memories_132, f_MO_memories_154, hwi, reduceIte, i_MO_memories_c1]
theorem pf_52 (h : R1 σ τ) (hn : m_slot τ = false → m_next τ = m_pc τ + 4) (hop : f_CO_op σ = 52) : Post (f_PR_perform σ 52) (f_MO_perform τ (x_instr σ)) := by
  rw [pc_52, pm_52 τ _ hop, e_rs, s_eq h.1, e_rt, e_imm]
  rw [mmo_52]
  exact oth_52 h
theorem pc_53 (σ : XS) : f_PR_perform σ 53 = (σ, f_FA_noCoprocessor σ 1) := by
  unfold f_PR_perform
  simp (decide := true) only [reduceIte, f_PR_perform_296, f_PR_perform_304, f_PR_perform_312, f_PR_perform_320, f_PR_perform_325, f_PR_perform_343, f_PR_perform_351, i_PR_perform_c1, i_PR_perform_c2, i_PR_perform_c3, i_PR_perform_c4, i_PR_perform_c5, i_PR_perform_c6, i_PR_perform_c7, i_PR_perform_c8, i_PR_perform_c9, i_PR_perform_c10]
theorem pm_53 (τ : MS) (i : Int32) (hop : (Int32.toUInt32 i >>> (Int32.toUInt32 (26 : Int32) &&& Int32.toUInt32 31)).toInt32 = 53) : f_MO_perform τ i = f_MO_memories τ 53 ((i >>> ((16 : Int32) &&& 31)) &&& (31 : Int32)) ((m_r τ (Int32.toNatClampNeg ((i >>> ((21 : Int32) &&& 31)) &&& (31 : Int32)))) + ((i <<< ((16 : Int32) &&& 31)) >>> ((16 : Int32) &&& 31))) := by
  unfold f_MO_perform
  simp (decide := true) only [hop, f_MO_within, zb, reduceIte, f_MO_perform_99, f_MO_perform_146, i_MO_perform_c1, i_MO_perform_c2, i_MO_perform_c3, i_MO_perform_c4, i_MO_perform_c5, i_MO_perform_c6, i_MO_perform_c7, i_MO_perform_c8]
theorem mmo_53 (τ : MS) (rt a : Int32) : f_MO_memories τ 53 rt a = f_MO_other τ 53 := by
  have hwi : f_MO_within τ 53 40 46 = false := by
    unfold f_MO_within
    decide
  simp (decide := true) only [f_MO_memories, f_MO_memories_23, f_MO_memories_29, f_MO_memories_34, f_MO_memories_60, f_MO_memories_65, f_MO_memories_84, f_MO_memories_89, f_MO_memories_132, f_MO_memories_154, hwi, reduceIte, i_MO_memories_c1]
theorem pf_53 (h : R1 σ τ) (hn : m_slot τ = false → m_next τ = m_pc τ + 4) (hop : f_CO_op σ = 53) : Post (f_PR_perform σ 53) (f_MO_perform τ (x_instr σ)) := by
  rw [pc_53, pm_53 τ _ hop, e_rs, s_eq h.1, e_rt, e_imm]
  rw [mmo_53]
  rw [show f_FA_noCoprocessor σ 1 = 43 by unfold f_FA_noCoprocessor; decide]
  exact oth_53 h
theorem pc_54 (σ : XS) : f_PR_perform σ 54 = (σ, f_FA_noCoprocessor σ 2) := by
  unfold f_PR_perform
  simp (decide := true) only [reduceIte, f_PR_perform_296, f_PR_perform_304, f_PR_perform_312, f_PR_perform_320, f_PR_perform_325, f_PR_perform_343, f_PR_perform_351, i_PR_perform_c1, i_PR_perform_c2, i_PR_perform_c3, i_PR_perform_c4, i_PR_perform_c5, i_PR_perform_c6, i_PR_perform_c7, i_PR_perform_c8, i_PR_perform_c9, i_PR_perform_c10]
theorem pm_54 (τ : MS) (i : Int32) (hop : (Int32.toUInt32 i >>> (Int32.toUInt32 (26 : Int32) &&& Int32.toUInt32 31)).toInt32 = 54) : f_MO_perform τ i = f_MO_memories τ 54 ((i >>> ((16 : Int32) &&& 31)) &&& (31 : Int32)) ((m_r τ (Int32.toNatClampNeg ((i >>> ((21 : Int32) &&& 31)) &&& (31 : Int32)))) + ((i <<< ((16 : Int32) &&& 31)) >>> ((16 : Int32) &&& 31))) := by
  unfold f_MO_perform
  simp (decide := true) only [hop, f_MO_within, zb, reduceIte, f_MO_perform_99, f_MO_perform_146, i_MO_perform_c1, i_MO_perform_c2, i_MO_perform_c3, i_MO_perform_c4, i_MO_perform_c5, i_MO_perform_c6, i_MO_perform_c7, i_MO_perform_c8]
theorem mmo_54 (τ : MS) (rt a : Int32) : f_MO_memories τ 54 rt a = f_MO_other τ 54 := by
  have hwi : f_MO_within τ 54 40 46 = false := by
    unfold f_MO_within
    decide
  simp (decide := true) only [f_MO_memories, f_MO_memories_23, f_MO_memories_29, f_MO_memories_34, f_MO_memories_60, f_MO_memories_65, f_MO_memories_84, f_MO_memories_89, f_MO_memories_132, f_MO_memories_154, hwi, reduceIte, i_MO_memories_c1]
theorem pf_54 (h : R1 σ τ) (hn : m_slot τ = false → m_next τ = m_pc τ + 4) (hop : f_CO_op σ = 54) : Post (f_PR_perform σ 54) (f_MO_perform τ (x_instr σ)) := by
  rw [pc_54, pm_54 τ _ hop, e_rs, s_eq h.1, e_rt, e_imm]
  rw [mmo_54]
  rw [show f_FA_noCoprocessor σ 2 = 75 by unfold f_FA_noCoprocessor; decide]
  exact oth_54 h
theorem pc_55 (σ : XS) : f_PR_perform σ 55 = (σ, (10 : Int32)) := by
  unfold f_PR_perform
  simp (decide := true) only [reduceIte, f_PR_perform_296, f_PR_perform_304, f_PR_perform_312, f_PR_perform_320, f_PR_perform_325, f_PR_perform_343, f_PR_perform_351, i_PR_perform_c1, i_PR_perform_c2, i_PR_perform_c3, i_PR_perform_c4, i_PR_perform_c5, i_PR_perform_c6, i_PR_perform_c7, i_PR_perform_c8, i_PR_perform_c9, i_PR_perform_c10]
theorem pm_55 (τ : MS) (i : Int32) (hop : (Int32.toUInt32 i >>> (Int32.toUInt32 (26 : Int32) &&& Int32.toUInt32 31)).toInt32 = 55) : f_MO_perform τ i = f_MO_memories τ 55 ((i >>> ((16 : Int32) &&& 31)) &&& (31 : Int32)) ((m_r τ (Int32.toNatClampNeg ((i >>> ((21 : Int32) &&& 31)) &&& (31 : Int32)))) + ((i <<< ((16 : Int32) &&& 31)) >>> ((16 : Int32) &&& 31))) := by
  unfold f_MO_perform
  simp (decide := true) only [hop, f_MO_within, zb, reduceIte, f_MO_perform_99, f_MO_perform_146, i_MO_perform_c1, i_MO_perform_c2, i_MO_perform_c3, i_MO_perform_c4, i_MO_perform_c5, i_MO_perform_c6, i_MO_perform_c7, i_MO_perform_c8]
theorem mmo_55 (τ : MS) (rt a : Int32) : f_MO_memories τ 55 rt a = f_MO_other τ 55 := by
  have hwi : f_MO_within τ 55 40 46 = false := by
    unfold f_MO_within
    decide
  simp (decide := true) only [f_MO_memories, f_MO_memories_23, f_MO_memories_29, f_MO_memories_34, f_MO_memories_60, f_MO_memories_65, f_MO_memories_84, f_MO_memories_89, f_MO_memories_132, f_MO_memories_154, hwi, reduceIte, i_MO_memories_c1]
theorem pf_55 (h : R1 σ τ) (hn : m_slot τ = false → m_next τ = m_pc τ + 4) (hop : f_CO_op σ = 55) : Post (f_PR_perform σ 55) (f_MO_perform τ (x_instr σ)) := by
  rw [pc_55, pm_55 τ _ hop, e_rs, s_eq h.1, e_rt, e_imm]
  rw [mmo_55]
  exact oth_55 h
theorem pc_56 (σ : XS) : f_PR_perform σ 56 = f_LS_store σ := by
  unfold f_PR_perform
  simp (decide := true) only [reduceIte, f_PR_perform_296, f_PR_perform_304, f_PR_perform_312, f_PR_perform_320, f_PR_perform_325, f_PR_perform_343, f_PR_perform_351, i_PR_perform_c1, i_PR_perform_c2, i_PR_perform_c3, i_PR_perform_c4, i_PR_perform_c5, i_PR_perform_c6, i_PR_perform_c7, i_PR_perform_c8, i_PR_perform_c9, i_PR_perform_c10]
theorem pm_56 (τ : MS) (i : Int32) (hop : (Int32.toUInt32 i >>> (Int32.toUInt32 (26 : Int32) &&& Int32.toUInt32 31)).toInt32 = 56) : f_MO_perform τ i = f_MO_memories τ 56 ((i >>> ((16 : Int32) &&& 31)) &&& (31 : Int32)) ((m_r τ (Int32.toNatClampNeg ((i >>> ((21 : Int32) &&& 31)) &&& (31 : Int32)))) + ((i <<< ((16 : Int32) &&& 31)) >>> ((16 : Int32) &&& 31))) := by
  unfold f_MO_perform
  simp (decide := true) only [hop, f_MO_within, zb, reduceIte, f_MO_perform_99, f_MO_perform_146, i_MO_perform_c1, i_MO_perform_c2, i_MO_perform_c3, i_MO_perform_c4, i_MO_perform_c5, i_MO_perform_c6, i_MO_perform_c7, i_MO_perform_c8]
theorem pf_56 (h : R1 σ τ) (hn : m_slot τ = false → m_next τ = m_pc τ + 4) (hop : f_CO_op σ = 56) : Post (f_PR_perform σ 56) (f_MO_perform τ (x_instr σ)) := by
  rw [pc_56, pm_56 τ _ hop, e_rs, s_eq h.1, e_rt, e_imm]
  exact (mem_56 h hop).2
theorem pc_57 (σ : XS) : f_PR_perform σ 57 = (σ, f_FA_noCoprocessor σ 1) := by
  unfold f_PR_perform
  simp (decide := true) only [reduceIte, f_PR_perform_296, f_PR_perform_304, f_PR_perform_312, f_PR_perform_320, f_PR_perform_325, f_PR_perform_343, f_PR_perform_351, i_PR_perform_c1, i_PR_perform_c2, i_PR_perform_c3, i_PR_perform_c4, i_PR_perform_c5, i_PR_perform_c6, i_PR_perform_c7, i_PR_perform_c8, i_PR_perform_c9, i_PR_perform_c10]
theorem pm_57 (τ : MS) (i : Int32) (hop : (Int32.toUInt32 i >>> (Int32.toUInt32 (26 : Int32) &&& Int32.toUInt32 31)).toInt32 = 57) : f_MO_perform τ i = f_MO_memories τ 57 ((i >>> ((16 : Int32) &&& 31)) &&& (31 : Int32)) ((m_r τ (Int32.toNatClampNeg ((i >>> ((21 : Int32) &&& 31)) &&& (31 : Int32)))) + ((i <<< ((16 : Int32) &&& 31)) >>> ((16 : Int32) &&& 31))) := by
  unfold f_MO_perform
  simp (decide := true) only [hop, f_MO_within, zb, reduceIte, f_MO_perform_99, f_MO_perform_146, i_MO_perform_c1, i_MO_perform_c2, i_MO_perform_c3, i_MO_perform_c4, i_MO_perform_c5, i_MO_perform_c6, i_MO_perform_c7, i_MO_perform_c8]
theorem mmo_57 (τ : MS) (rt a : Int32) : f_MO_memories τ 57 rt a = f_MO_other τ 57 := by
  have hwi : f_MO_within τ 57 40 46 = false := by
    unfold f_MO_within
    decide
  simp (decide := true) only [f_MO_memories, f_MO_memories_23, f_MO_memories_29, f_MO_memories_34, f_MO_memories_60, f_MO_memories_65, f_MO_memories_84, f_MO_memories_89, f_MO_memories_132, f_MO_memories_154, hwi, reduceIte, i_MO_memories_c1]
theorem pf_57 (h : R1 σ τ) (hn : m_slot τ = false → m_next τ = m_pc τ + 4) (hop : f_CO_op σ = 57) : Post (f_PR_perform σ 57) (f_MO_perform τ (x_instr σ)) := by
  rw [pc_57, pm_57 τ _ hop, e_rs, s_eq h.1, e_rt, e_imm]
  rw [mmo_57]
  rw [show f_FA_noCoprocessor σ 1 = 43 by unfold f_FA_noCoprocessor; decide]
  exact oth_57 h
theorem pc_58 (σ : XS) : f_PR_perform σ 58 = (σ, f_FA_noCoprocessor σ 2) := by
  unfold f_PR_perform
  simp (decide := true) only [reduceIte, f_PR_perform_296, f_PR_perform_304, f_PR_perform_312, f_PR_perform_320, f_PR_perform_325, f_PR_perform_343, f_PR_perform_351, i_PR_perform_c1, i_PR_perform_c2, i_PR_perform_c3, i_PR_perform_c4, i_PR_perform_c5, i_PR_perform_c6, i_PR_perform_c7, i_PR_perform_c8, i_PR_perform_c9, i_PR_perform_c10]
theorem pm_58 (τ : MS) (i : Int32) (hop : (Int32.toUInt32 i >>> (Int32.toUInt32 (26 : Int32) &&& Int32.toUInt32 31)).toInt32 = 58) : f_MO_perform τ i = f_MO_memories τ 58 ((i >>> ((16 : Int32) &&& 31)) &&& (31 : Int32)) ((m_r τ (Int32.toNatClampNeg ((i >>> ((21 : Int32) &&& 31)) &&& (31 : Int32)))) + ((i <<< ((16 : Int32) &&& 31)) >>> ((16 : Int32) &&& 31))) := by
  unfold f_MO_perform
  simp (decide := true) only [hop, f_MO_within, zb, reduceIte, f_MO_perform_99, f_MO_perform_146, i_MO_perform_c1, i_MO_perform_c2, i_MO_perform_c3, i_MO_perform_c4, i_MO_perform_c5, i_MO_perform_c6, i_MO_perform_c7, i_MO_perform_c8]
theorem mmo_58 (τ : MS) (rt a : Int32) : f_MO_memories τ 58 rt a = f_MO_other τ 58 := by
  have hwi : f_MO_within τ 58 40 46 = false := by
    unfold f_MO_within
    decide
  simp (decide := true) only [f_MO_memories, f_MO_memories_23, f_MO_memories_29, f_MO_memories_34, f_MO_memories_60, f_MO_memories_65, f_MO_memories_84, f_MO_memories_89, f_MO_memories_132, f_MO_memories_154, hwi, reduceIte, i_MO_memories_c1]
theorem pf_58 (h : R1 σ τ) (hn : m_slot τ = false → m_next τ = m_pc τ + 4) (hop : f_CO_op σ = 58) : Post (f_PR_perform σ 58) (f_MO_perform τ (x_instr σ)) := by
  rw [pc_58, pm_58 τ _ hop, e_rs, s_eq h.1, e_rt, e_imm]
  rw [mmo_58]
  rw [show f_FA_noCoprocessor σ 2 = 75 by unfold f_FA_noCoprocessor; decide]
  exact oth_58 h
theorem pc_59 (σ : XS) : f_PR_perform σ 59 = (σ, (10 : Int32)) := by
  unfold f_PR_perform
  simp (decide := true) only [reduceIte, f_PR_perform_296, f_PR_perform_304, f_PR_perform_312, f_PR_perform_320, f_PR_perform_325, f_PR_perform_343, f_PR_perform_351, i_PR_perform_c1, i_PR_perform_c2, i_PR_perform_c3, i_PR_perform_c4, i_PR_perform_c5, i_PR_perform_c6, i_PR_perform_c7, i_PR_perform_c8, i_PR_perform_c9, i_PR_perform_c10]
theorem pm_59 (τ : MS) (i : Int32) (hop : (Int32.toUInt32 i >>> (Int32.toUInt32 (26 : Int32) &&& Int32.toUInt32 31)).toInt32 = 59) : f_MO_perform τ i = f_MO_memories τ 59 ((i >>> ((16 : Int32) &&& 31)) &&& (31 : Int32)) ((m_r τ (Int32.toNatClampNeg ((i >>> ((21 : Int32) &&& 31)) &&& (31 : Int32)))) + ((i <<< ((16 : Int32) &&& 31)) >>> ((16 : Int32) &&& 31))) := by
  unfold f_MO_perform
  simp (decide := true) only [hop, f_MO_within, zb, reduceIte, f_MO_perform_99, f_MO_perform_146, i_MO_perform_c1, i_MO_perform_c2, i_MO_perform_c3, i_MO_perform_c4, i_MO_perform_c5, i_MO_perform_c6, i_MO_perform_c7, i_MO_perform_c8]
theorem mmo_59 (τ : MS) (rt a : Int32) : f_MO_memories τ 59 rt a = f_MO_other τ 59 := by
  have hwi : f_MO_within τ 59 40 46 = false := by
    unfold f_MO_within
    decide
  simp (decide := true) only [f_MO_memories, f_MO_memories_23, f_MO_memories_29, f_MO_memories_34, f_MO_memories_60, f_MO_memories_65, f_MO_memories_84, f_MO_memories_89, f_MO_memories_132, f_MO_memories_154, hwi, reduceIte, i_MO_memories_c1]
theorem pf_59 (h : R1 σ τ) (hn : m_slot τ = false → m_next τ = m_pc τ + 4) (hop : f_CO_op σ = 59) : Post (f_PR_perform σ 59) (f_MO_perform τ (x_instr σ)) := by
  rw [pc_59, pm_59 τ _ hop, e_rs, s_eq h.1, e_rt, e_imm]
  rw [mmo_59]
  exact oth_59 h
theorem pc_60 (σ : XS) : f_PR_perform σ 60 = (σ, (10 : Int32)) := by
  unfold f_PR_perform
  simp (decide := true) only [reduceIte, f_PR_perform_296, f_PR_perform_304, f_PR_perform_312, f_PR_perform_320, f_PR_perform_325, f_PR_perform_343, f_PR_perform_351, i_PR_perform_c1, i_PR_perform_c2, i_PR_perform_c3, i_PR_perform_c4, i_PR_perform_c5, i_PR_perform_c6, i_PR_perform_c7, i_PR_perform_c8, i_PR_perform_c9, i_PR_perform_c10]
theorem pm_60 (τ : MS) (i : Int32) (hop : (Int32.toUInt32 i >>> (Int32.toUInt32 (26 : Int32) &&& Int32.toUInt32 31)).toInt32 = 60) : f_MO_perform τ i = f_MO_memories τ 60 ((i >>> ((16 : Int32) &&& 31)) &&& (31 : Int32)) ((m_r τ (Int32.toNatClampNeg ((i >>> ((21 : Int32) &&& 31)) &&& (31 : Int32)))) + ((i <<< ((16 : Int32) &&& 31)) >>> ((16 : Int32) &&& 31))) := by
  unfold f_MO_perform
  simp (decide := true) only [hop, f_MO_within, zb, reduceIte, f_MO_perform_99, f_MO_perform_146, i_MO_perform_c1, i_MO_perform_c2, i_MO_perform_c3, i_MO_perform_c4, i_MO_perform_c5, i_MO_perform_c6, i_MO_perform_c7, i_MO_perform_c8]
theorem mmo_60 (τ : MS) (rt a : Int32) : f_MO_memories τ 60 rt a = f_MO_other τ 60 := by
  have hwi : f_MO_within τ 60 40 46 = false := by
    unfold f_MO_within
    decide
  simp (decide := true) only [f_MO_memories, f_MO_memories_23, f_MO_memories_29, f_MO_memories_34, f_MO_memories_60, f_MO_memories_65, f_MO_memories_84, f_MO_memories_89, f_MO_memories_132, f_MO_memories_154, hwi, reduceIte, i_MO_memories_c1]
theorem pf_60 (h : R1 σ τ) (hn : m_slot τ = false → m_next τ = m_pc τ + 4) (hop : f_CO_op σ = 60) : Post (f_PR_perform σ 60) (f_MO_perform τ (x_instr σ)) := by
  rw [pc_60, pm_60 τ _ hop, e_rs, s_eq h.1, e_rt, e_imm]
  rw [mmo_60]
  exact oth_60 h
theorem pc_61 (σ : XS) : f_PR_perform σ 61 = (σ, f_FA_noCoprocessor σ 1) := by
  unfold f_PR_perform
  simp (decide := true) only [reduceIte, f_PR_perform_296, f_PR_perform_304, f_PR_perform_312, f_PR_perform_320, f_PR_perform_325, f_PR_perform_343, f_PR_perform_351, i_PR_perform_c1, i_PR_perform_c2, i_PR_perform_c3, i_PR_perform_c4, i_PR_perform_c5, i_PR_perform_c6, i_PR_perform_c7, i_PR_perform_c8, i_PR_perform_c9, i_PR_perform_c10]
theorem pm_61 (τ : MS) (i : Int32) (hop : (Int32.toUInt32 i >>> (Int32.toUInt32 (26 : Int32) &&& Int32.toUInt32 31)).toInt32 = 61) : f_MO_perform τ i = f_MO_memories τ 61 ((i >>> ((16 : Int32) &&& 31)) &&& (31 : Int32)) ((m_r τ (Int32.toNatClampNeg ((i >>> ((21 : Int32) &&& 31)) &&& (31 : Int32)))) + ((i <<< ((16 : Int32) &&& 31)) >>> ((16 : Int32) &&& 31))) := by
  unfold f_MO_perform
  simp (decide := true) only [hop, f_MO_within, zb, reduceIte, f_MO_perform_99, f_MO_perform_146, i_MO_perform_c1, i_MO_perform_c2, i_MO_perform_c3, i_MO_perform_c4, i_MO_perform_c5, i_MO_perform_c6, i_MO_perform_c7, i_MO_perform_c8]
theorem mmo_61 (τ : MS) (rt a : Int32) : f_MO_memories τ 61 rt a = f_MO_other τ 61 := by
  have hwi : f_MO_within τ 61 40 46 = false := by
    unfold f_MO_within
    decide
  simp (decide := true) only [f_MO_memories, f_MO_memories_23, f_MO_memories_29, f_MO_memories_34, f_MO_memories_60, f_MO_memories_65, f_MO_memories_84, f_MO_memories_89, f_MO_memories_132, f_MO_memories_154, hwi, reduceIte, i_MO_memories_c1]
theorem pf_61 (h : R1 σ τ) (hn : m_slot τ = false → m_next τ = m_pc τ + 4) (hop : f_CO_op σ = 61) : Post (f_PR_perform σ 61) (f_MO_perform τ (x_instr σ)) := by
  rw [pc_61, pm_61 τ _ hop, e_rs, s_eq h.1, e_rt, e_imm]
  rw [mmo_61]
  rw [show f_FA_noCoprocessor σ 1 = 43 by unfold f_FA_noCoprocessor; decide]
  exact oth_61 h
theorem pc_62 (σ : XS) : f_PR_perform σ 62 = (σ, f_FA_noCoprocessor σ 2) := by
  unfold f_PR_perform
  simp (decide := true) only [reduceIte, f_PR_perform_296, f_PR_perform_304, f_PR_perform_312, f_PR_perform_320, f_PR_perform_325, f_PR_perform_343, f_PR_perform_351, i_PR_perform_c1, i_PR_perform_c2, i_PR_perform_c3, i_PR_perform_c4, i_PR_perform_c5, i_PR_perform_c6, i_PR_perform_c7, i_PR_perform_c8, i_PR_perform_c9, i_PR_perform_c10]
theorem pm_62 (τ : MS) (i : Int32) (hop : (Int32.toUInt32 i >>> (Int32.toUInt32 (26 : Int32) &&& Int32.toUInt32 31)).toInt32 = 62) : f_MO_perform τ i = f_MO_memories τ 62 ((i >>> ((16 : Int32) &&& 31)) &&& (31 : Int32)) ((m_r τ (Int32.toNatClampNeg ((i >>> ((21 : Int32) &&& 31)) &&& (31 : Int32)))) + ((i <<< ((16 : Int32) &&& 31)) >>> ((16 : Int32) &&& 31))) := by
  unfold f_MO_perform
  simp (decide := true) only [hop, f_MO_within, zb, reduceIte, f_MO_perform_99, f_MO_perform_146, i_MO_perform_c1, i_MO_perform_c2, i_MO_perform_c3, i_MO_perform_c4, i_MO_perform_c5, i_MO_perform_c6, i_MO_perform_c7, i_MO_perform_c8]
theorem mmo_62 (τ : MS) (rt a : Int32) : f_MO_memories τ 62 rt a = f_MO_other τ 62 := by
  have hwi : f_MO_within τ 62 40 46 = false := by
    unfold f_MO_within
    decide
  simp (decide := true) only [f_MO_memories, f_MO_memories_23, f_MO_memories_29, f_MO_memories_34, f_MO_memories_60, f_MO_memories_65, f_MO_memories_84, f_MO_memories_89, f_MO_memories_132, f_MO_memories_154, hwi, reduceIte, i_MO_memories_c1]
theorem pf_62 (h : R1 σ τ) (hn : m_slot τ = false → m_next τ = m_pc τ + 4) (hop : f_CO_op σ = 62) : Post (f_PR_perform σ 62) (f_MO_perform τ (x_instr σ)) := by
  rw [pc_62, pm_62 τ _ hop, e_rs, s_eq h.1, e_rt, e_imm]
  rw [mmo_62]
  rw [show f_FA_noCoprocessor σ 2 = 75 by unfold f_FA_noCoprocessor; decide]
  exact oth_62 h
theorem pc_63 (σ : XS) : f_PR_perform σ 63 = (σ, (10 : Int32)) := by
  unfold f_PR_perform
  simp (decide := true) only [reduceIte, f_PR_perform_296, f_PR_perform_304, f_PR_perform_312, f_PR_perform_320, f_PR_perform_325, f_PR_perform_343, f_PR_perform_351, i_PR_perform_c1, i_PR_perform_c2, i_PR_perform_c3, i_PR_perform_c4, i_PR_perform_c5, i_PR_perform_c6, i_PR_perform_c7, i_PR_perform_c8, i_PR_perform_c9, i_PR_perform_c10]
theorem pm_63 (τ : MS) (i : Int32) (hop : (Int32.toUInt32 i >>> (Int32.toUInt32 (26 : Int32) &&& Int32.toUInt32 31)).toInt32 = 63) : f_MO_perform τ i = f_MO_memories τ 63 ((i >>> ((16 : Int32) &&& 31)) &&& (31 : Int32)) ((m_r τ (Int32.toNatClampNeg ((i >>> ((21 : Int32) &&& 31)) &&& (31 : Int32)))) + ((i <<< ((16 : Int32) &&& 31)) >>> ((16 : Int32) &&& 31))) := by
  unfold f_MO_perform
  simp (decide := true) only [hop, f_MO_within, zb, reduceIte, f_MO_perform_99, f_MO_perform_146, i_MO_perform_c1, i_MO_perform_c2, i_MO_perform_c3, i_MO_perform_c4, i_MO_perform_c5, i_MO_perform_c6, i_MO_perform_c7, i_MO_perform_c8]
theorem mmo_63 (τ : MS) (rt a : Int32) : f_MO_memories τ 63 rt a = f_MO_other τ 63 := by
  have hwi : f_MO_within τ 63 40 46 = false := by
    unfold f_MO_within
    decide
  simp (decide := true) only [f_MO_memories, f_MO_memories_23, f_MO_memories_29, f_MO_memories_34, f_MO_memories_60, f_MO_memories_65, f_MO_memories_84, f_MO_memories_89, f_MO_memories_132, f_MO_memories_154, hwi, reduceIte, i_MO_memories_c1]
theorem pf_63 (h : R1 σ τ) (hn : m_slot τ = false → m_next τ = m_pc τ + 4) (hop : f_CO_op σ = 63) : Post (f_PR_perform σ 63) (f_MO_perform τ (x_instr σ)) := by
  rw [pc_63, pm_63 τ _ hop, e_rs, s_eq h.1, e_rt, e_imm]
  rw [mmo_63]
  exact oth_63 h
theorem op_ex (σ : XS) : ∃ k : Nat, k < 64 ∧ f_CO_op σ = nI k := by
  refine ⟨(x_instr σ).toBitVec.toNat / 2 ^ 26, ?_, ?_⟩
  · have := (x_instr σ).toBitVec.isLt
    omega
  · apply eq_tn.2
    have := (x_instr σ).toBitVec.isLt
    unfold f_CO_op
    rw [pk_ushr _ 26 26 (by decide), pk_tn (by omega)]
theorem perf_ag (h : R1 σ τ) (hn : m_slot τ = false → m_next τ = m_pc τ + 4) : Post (f_PR_perform σ (f_CO_op σ)) (f_MO_perform τ (x_instr σ)) := by
  obtain ⟨k, hk, hf⟩ := op_ex σ
  rw [hf]
  revert hf
  exact c64 (P := fun k => f_CO_op σ = nI k → Post (f_PR_perform σ (nI k)) (f_MO_perform τ (x_instr σ))) (fun q => pf_0 h hn q) (fun q => pf_1 h hn q) (fun q => pf_2 h hn q) (fun q => pf_3 h hn q) (fun q => pf_4 h hn q) (fun q => pf_5 h hn q) (fun q => pf_6 h hn q) (fun q => pf_7 h hn q) (fun q => pf_8 h hn q) (fun q => pf_9 h hn q) (fun q => pf_10 h hn q) (fun q => pf_11 h hn q) (fun q => pf_12 h hn q) (fun q => pf_13 h hn q) (fun q => pf_14 h hn q) (fun q => pf_15 h hn q) (fun q => pf_16 h hn q) (fun q => pf_17 h hn q) (fun q => pf_18 h hn q) (fun q => pf_19 h hn q) (fun q => pf_20 h hn q) (fun q => pf_21 h hn q) (fun q => pf_22 h hn q) (fun q => pf_23 h hn q) (fun q => pf_24 h hn q) (fun q => pf_25 h hn q) (fun q => pf_26 h hn q) (fun q => pf_27 h hn q) (fun q => pf_28 h hn q) (fun q => pf_29 h hn q) (fun q => pf_30 h hn q) (fun q => pf_31 h hn q) (fun q => pf_32 h hn q) (fun q => pf_33 h hn q) (fun q => pf_34 h hn q) (fun q => pf_35 h hn q) (fun q => pf_36 h hn q) (fun q => pf_37 h hn q) (fun q => pf_38 h hn q) (fun q => pf_39 h hn q) (fun q => pf_40 h hn q) (fun q => pf_41 h hn q) (fun q => pf_42 h hn q) (fun q => pf_43 h hn q) (fun q => pf_44 h hn q) (fun q => pf_45 h hn q) (fun q => pf_46 h hn q) (fun q => pf_47 h hn q) (fun q => pf_48 h hn q) (fun q => pf_49 h hn q) (fun q => pf_50 h hn q) (fun q => pf_51 h hn q) (fun q => pf_52 h hn q) (fun q => pf_53 h hn q) (fun q => pf_54 h hn q) (fun q => pf_55 h hn q) (fun q => pf_56 h hn q) (fun q => pf_57 h hn q) (fun q => pf_58 h hn q) (fun q => pf_59 h hn q) (fun q => pf_60 h hn q) (fun q => pf_61 h hn q) (fun q => pf_62 h hn q) (fun q => pf_63 h hn q) k hk
theorem P159 (h : R1 σ τ) (op rt a : Int32) (hrt : vp_in rt 32) (part w : Bool) {b m : Int32} {B : Nat} (hb : HB b m B) : P_MO_memories_159 τ op rt a part w b := by
  have hw : HW w false (if w then 1 else 0) := by
    cases w
    · exact Or.inl ⟨rfl, rfl, rfl⟩
    · exact Or.inr (Or.inl ⟨rfl, rfl, rfl⟩)
  have hal := al_ag h a hw hb
  unfold P_MO_memories_159
  refine ⟨hal.1, ?_⟩
  rcases hal.2 with ⟨p, hp, hpB, e1, e2⟩ | ⟨r, e1, e2, e3, e4, e5⟩
  · rw [e2]
    exact Pc2 τ _ _ hrt hp
  · exact ⟨fun q => absurd q (Fa_pos e4).1, fun _ => trivial⟩
theorem P_memories (h : R1 σ τ) (op rt a : Int32) (hrt : vp_in rt 32) : P_MO_memories τ op rt a := by
  have h1 : ∀ part w, P_MO_memories_159 τ op rt a part w 1 := fun part w => P159 h op rt a hrt part w (Or.inl ⟨rfl, rfl, rfl⟩)
  have h2 : ∀ part w, P_MO_memories_159 τ op rt a part w 2 := fun part w => P159 h op rt a hrt part w (Or.inr (Or.inl ⟨rfl, rfl, rfl⟩))
  have h4 : ∀ part w, P_MO_memories_159 τ op rt a part w 4 := fun part w => P159 h op rt a hrt part w (Or.inr (Or.inr ⟨rfl, rfl, rfl⟩))
  have h89 : ∀ part w kn, P_MO_memories_89 τ op rt a part w kn := fun part w kn => ⟨fun _ => trivial, fun _ => ⟨fun _ => trivial, fun _ => ⟨fun _ => h1 _ _, fun _ => ⟨fun _ => h1 _ _, fun _ => ⟨fun _ => h1 _ _, fun _ => ⟨fun _ => ⟨fun _ => h2 _ _, fun _ => ⟨fun _ => h2 _ _, fun _ => ⟨fun _ => h2 _ _, fun _ => h4 _ _⟩⟩⟩, fun _ => h1 _ _⟩⟩⟩⟩⟩⟩
  have h65 : ∀ w part, P_MO_memories_65 τ op rt a w part := fun w part => ⟨fun _ => h89 _ _ _, fun _ => ⟨fun _ => ⟨fun _ => h89 _ _ _, fun _ => h89 _ _ _⟩, fun _ => h89 _ _ _⟩⟩
  have h34 : ∀ w, P_MO_memories_34 τ op rt a w := fun w => ⟨fun _ => h65 _ _, fun _ => ⟨fun _ => h65 _ _, fun _ => ⟨fun _ => h65 _ _, fun _ => ⟨fun _ => h65 _ _, fun _ => h65 _ _⟩⟩⟩⟩
  have h23 : P_MO_memories_23 τ op rt a := ⟨fun _ => h34 _, fun _ => h34 _⟩
  exact ⟨fun _ => h23, fun _ => ⟨fun _ => h23, fun _ => ⟨fun _ => h23, fun _ => h34 _⟩⟩⟩
theorem P_perform (h : R1 σ τ) : P_MO_perform τ (x_instr σ) := by
  have hm : ∀ op a, P_MO_memories τ op ((x_instr σ >>> ((16 : Int32) &&& 31)) &&& (31 : Int32)) a := fun op a => P_memories h op _ a (vin31 (and31 _))
  have hs : P_MO_system τ (x_instr σ) (f_CO_op σ) ((x_instr σ >>> ((21 : Int32) &&& 31)) &&& (31 : Int32)) ((x_instr σ >>> ((16 : Int32) &&& 31)) &&& (31 : Int32)) := by
    rw [e_rs, e_rt]
    exact (sys_ag h rfl).1
  have h99 : ∀ a b c d, P_MO_perform_99 τ (x_instr σ) a b c d := fun _ _ _ _ => trivial
  unfold P_MO_perform
  exact ⟨fun _ => ⟨P_special τ σ _ _, trivial⟩, fun _ => ⟨fun _ => trivial, fun _ => ⟨fun _ => h99 _ _ _ _, fun _ => ⟨fun _ => ⟨fun _ => ⟨fun _ => ⟨hs, trivial⟩, fun _ => ⟨fun _ => ⟨hs, trivial⟩, fun _ => ⟨fun _ => ⟨P_multiplies τ σ _ _, trivial⟩, fun _ => ⟨fun _ => trivial, fun _ => ⟨hm _ _, trivial⟩⟩⟩⟩⟩, fun _ => trivial⟩, fun _ => h99 _ _ _ _⟩⟩⟩⟩
end PRF
