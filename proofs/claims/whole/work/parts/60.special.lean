section SPC
variable {σ : XS} {τ : MS}
theorem c64 {P : Nat → Prop} (h0 : P 0) (h1 : P 1) (h2 : P 2) (h3 : P 3) (h4 : P 4) (h5 : P 5) (h6 : P 6) (h7 : P 7) (h8 : P 8) (h9 : P 9) (h10 : P 10) (h11 : P 11) (h12 : P 12) (h13 : P 13) (h14 : P 14) (h15 : P 15) (h16 : P 16) (h17 : P 17) (h18 : P 18) (h19 : P 19) (h20 : P 20) (h21 : P 21) (h22 : P 22) (h23 : P 23) (h24 : P 24) (h25 : P 25) (h26 : P 26) (h27 : P 27) (h28 : P 28) (h29 : P 29) (h30 : P 30) (h31 : P 31) (h32 : P 32) (h33 : P 33) (h34 : P 34) (h35 : P 35) (h36 : P 36) (h37 : P 37) (h38 : P 38) (h39 : P 39) (h40 : P 40) (h41 : P 41) (h42 : P 42) (h43 : P 43) (h44 : P 44) (h45 : P 45) (h46 : P 46) (h47 : P 47) (h48 : P 48) (h49 : P 49) (h50 : P 50) (h51 : P 51) (h52 : P 52) (h53 : P 53) (h54 : P 54) (h55 : P 55) (h56 : P 56) (h57 : P 57) (h58 : P 58) (h59 : P 59) (h60 : P 60) (h61 : P 61) (h62 : P 62) (h63 : P 63) : ∀ i, i < 64 → P i := by
  intro i hi
  match i, hi with
  | 0, _ => exact h0
  | 1, _ => exact h1
  | 2, _ => exact h2
  | 3, _ => exact h3
  | 4, _ => exact h4
  | 5, _ => exact h5
  | 6, _ => exact h6
  | 7, _ => exact h7
  | 8, _ => exact h8
  | 9, _ => exact h9
  | 10, _ => exact h10
  | 11, _ => exact h11
  | 12, _ => exact h12
  | 13, _ => exact h13
  | 14, _ => exact h14
  | 15, _ => exact h15
  | 16, _ => exact h16
  | 17, _ => exact h17
  | 18, _ => exact h18
  | 19, _ => exact h19
  | 20, _ => exact h20
  | 21, _ => exact h21
  | 22, _ => exact h22
  | 23, _ => exact h23
  | 24, _ => exact h24
  | 25, _ => exact h25
  | 26, _ => exact h26
  | 27, _ => exact h27
  | 28, _ => exact h28
  | 29, _ => exact h29
  | 30, _ => exact h30
  | 31, _ => exact h31
  | 32, _ => exact h32
  | 33, _ => exact h33
  | 34, _ => exact h34
  | 35, _ => exact h35
  | 36, _ => exact h36
  | 37, _ => exact h37
  | 38, _ => exact h38
  | 39, _ => exact h39
  | 40, _ => exact h40
  | 41, _ => exact h41
  | 42, _ => exact h42
  | 43, _ => exact h43
  | 44, _ => exact h44
  | 45, _ => exact h45
  | 46, _ => exact h46
  | 47, _ => exact h47
  | 48, _ => exact h48
  | 49, _ => exact h49
  | 50, _ => exact h50
  | 51, _ => exact h51
  | 52, _ => exact h52
  | 53, _ => exact h53
  | 54, _ => exact h54
  | 55, _ => exact h55
  | 56, _ => exact h56
  | 57, _ => exact h57
  | 58, _ => exact h58
  | 59, _ => exact h59
  | 60, _ => exact h60
  | 61, _ => exact h61
  | 62, _ => exact h62
  | 63, _ => exact h63
  | n + 64, hi => omega
theorem e_rs (σ : XS) : (x_instr σ >>> ((21 : Int32) &&& 31)) &&& (31 : Int32) = f_CO_rs σ := fld21 _
theorem e_rt (σ : XS) : (x_instr σ >>> ((16 : Int32) &&& 31)) &&& (31 : Int32) = f_CO_rt σ := fld16 _
theorem e_rd (σ : XS) : (x_instr σ >>> ((11 : Int32) &&& 31)) &&& (31 : Int32) = f_CO_rd σ := fld11 _
theorem e_sh (σ : XS) : (x_instr σ >>> ((6 : Int32) &&& 31)) &&& (31 : Int32) = f_CO_sh σ := fld6 _
theorem e_imm (σ : XS) : (x_instr σ <<< ((16 : Int32) &&& 31)) >>> ((16 : Int32) &&& 31) = f_CO_signedImmediate σ := imm16 _
theorem fn_ex (σ : XS) : ∃ k : Nat, k < 64 ∧ f_CO_fn σ = nI k := pk_andE (x_instr σ) (m := 63) 6 (by decide)
theorem P_special (τ : MS) (σ : XS) (s t : Int32) : P_MO_special τ (x_instr σ) s t := by
  have hrd : vp_in ((x_instr σ >>> ((11 : Int32) &&& 31)) &&& (31 : Int32)) 32 := vin31 (and31 _)
  repeat' (first | exact trivial | exact hrd | apply And.intro | intro _)
theorem spc_0 (hfn : f_CO_fn σ = 0) : f_PR_performOp0 σ = f_AR_shift σ 0 := by
  unfold f_PR_performOp0
  simp (decide := true) only [hfn, reduceIte]
  rw [i_PR_performOp0_c3]
  unfold f_AR_performOp0
  simp (decide := true) only [hfn, reduceIte]
  rw [i_AR_performOp0_c1]
theorem spm_0 (τ : MS) (i s t : Int32) (hfm : i &&& (63 : Int32) = 0) : f_MO_special τ i s t = f_MO_shift τ 0 ((i >>> ((11 : Int32) &&& 31)) &&& (31 : Int32)) ((i >>> ((6 : Int32) &&& 31)) &&& (31 : Int32)) t := by
  unfold f_MO_special
  simp (decide := true) only [hfm, reduceIte]
  unfold f_MO_special_112
  rw [i_MO_special_c4]
theorem sp_0 (h : R1 σ τ) (hn : m_slot τ = false → m_next τ = m_pc τ + 4) (hfn : f_CO_fn σ = 0) : Post (f_PR_performOp0 σ) (f_MO_special τ (x_instr σ) (f_CO_s σ) (f_CO_t σ)) := by
  have hfm : x_instr σ &&& (63 : Int32) = 0 := hfn
  have hrd := rdok σ
  rw [spc_0 hfn, spm_0 τ _ _ _ hfm, e_rd, e_sh]
  unfold f_AR_shift f_MO_shift
  simp (decide := true) only [reduceIte, zb, i_AR_shift_c6, i_AR_shift_c5, i_AR_shift_c4, i_AR_shift_c3, i_AR_shift_c2, i_AR_shift_c1, i_MO_shift_c2, f_MO_shift_52, i_MO_shift_c1]
  exact Post_put h hrd rfl
theorem spc_1 (hfn : f_CO_fn σ = 1) : f_PR_performOp0 σ = f_AR_shift σ 1 := by
  unfold f_PR_performOp0
  simp (decide := true) only [hfn, reduceIte]
  rw [i_PR_performOp0_c3]
  unfold f_AR_performOp0
  simp (decide := true) only [hfn, reduceIte]
  rw [i_AR_performOp0_c1]
theorem spm_1 (τ : MS) (i s t : Int32) (hfm : i &&& (63 : Int32) = 1) : f_MO_special τ i s t = f_MO_shift τ 1 ((i >>> ((11 : Int32) &&& 31)) &&& (31 : Int32)) ((i >>> ((6 : Int32) &&& 31)) &&& (31 : Int32)) t := by
  unfold f_MO_special
  simp (decide := true) only [hfm, reduceIte]
  unfold f_MO_special_112
  rw [i_MO_special_c4]
theorem sp_1 (h : R1 σ τ) (hn : m_slot τ = false → m_next τ = m_pc τ + 4) (hfn : f_CO_fn σ = 1) : Post (f_PR_performOp0 σ) (f_MO_special τ (x_instr σ) (f_CO_s σ) (f_CO_t σ)) := by
  have hfm : x_instr σ &&& (63 : Int32) = 1 := hfn
  have hrd := rdok σ
  rw [spc_1 hfn, spm_1 τ _ _ _ hfm, e_rd, e_sh]
  unfold f_AR_shift f_MO_shift
  simp (decide := true) only [reduceIte, zb, i_AR_shift_c6, i_AR_shift_c5, i_AR_shift_c4, i_AR_shift_c3, i_AR_shift_c2, i_AR_shift_c1, i_MO_shift_c2, f_MO_shift_52, i_MO_shift_c1]
  exact Post_raise h (by decide)
theorem spc_2 (hfn : f_CO_fn σ = 2) : f_PR_performOp0 σ = f_AR_shift σ 2 := by
  unfold f_PR_performOp0
  simp (decide := true) only [hfn, reduceIte]
  rw [i_PR_performOp0_c3]
  unfold f_AR_performOp0
  simp (decide := true) only [hfn, reduceIte]
  rw [i_AR_performOp0_c1]
theorem spm_2 (τ : MS) (i s t : Int32) (hfm : i &&& (63 : Int32) = 2) : f_MO_special τ i s t = f_MO_shift τ 2 ((i >>> ((11 : Int32) &&& 31)) &&& (31 : Int32)) ((i >>> ((6 : Int32) &&& 31)) &&& (31 : Int32)) t := by
  unfold f_MO_special
  simp (decide := true) only [hfm, reduceIte]
  unfold f_MO_special_112
  rw [i_MO_special_c4]
theorem sp_2 (h : R1 σ τ) (hn : m_slot τ = false → m_next τ = m_pc τ + 4) (hfn : f_CO_fn σ = 2) : Post (f_PR_performOp0 σ) (f_MO_special τ (x_instr σ) (f_CO_s σ) (f_CO_t σ)) := by
  have hfm : x_instr σ &&& (63 : Int32) = 2 := hfn
  have hrd := rdok σ
  rw [spc_2 hfn, spm_2 τ _ _ _ hfm, e_rd, e_sh]
  unfold f_AR_shift f_MO_shift
  simp (decide := true) only [reduceIte, zb, i_AR_shift_c6, i_AR_shift_c5, i_AR_shift_c4, i_AR_shift_c3, i_AR_shift_c2, i_AR_shift_c1, i_MO_shift_c2, f_MO_shift_52, i_MO_shift_c1]
  exact Post_put h hrd rfl
theorem spc_3 (hfn : f_CO_fn σ = 3) : f_PR_performOp0 σ = f_AR_shift σ 3 := by
  unfold f_PR_performOp0
  simp (decide := true) only [hfn, reduceIte]
  rw [i_PR_performOp0_c3]
  unfold f_AR_performOp0
  simp (decide := true) only [hfn, reduceIte]
  rw [i_AR_performOp0_c1]
theorem spm_3 (τ : MS) (i s t : Int32) (hfm : i &&& (63 : Int32) = 3) : f_MO_special τ i s t = f_MO_shift τ 3 ((i >>> ((11 : Int32) &&& 31)) &&& (31 : Int32)) ((i >>> ((6 : Int32) &&& 31)) &&& (31 : Int32)) t := by
  unfold f_MO_special
  simp (decide := true) only [hfm, reduceIte]
  unfold f_MO_special_112
  rw [i_MO_special_c4]
theorem sp_3 (h : R1 σ τ) (hn : m_slot τ = false → m_next τ = m_pc τ + 4) (hfn : f_CO_fn σ = 3) : Post (f_PR_performOp0 σ) (f_MO_special τ (x_instr σ) (f_CO_s σ) (f_CO_t σ)) := by
  have hfm : x_instr σ &&& (63 : Int32) = 3 := hfn
  have hrd := rdok σ
  rw [spc_3 hfn, spm_3 τ _ _ _ hfm, e_rd, e_sh]
  unfold f_AR_shift f_MO_shift
  simp (decide := true) only [reduceIte, zb, i_AR_shift_c6, i_AR_shift_c5, i_AR_shift_c4, i_AR_shift_c3, i_AR_shift_c2, i_AR_shift_c1, i_MO_shift_c2, f_MO_shift_52, i_MO_shift_c1]
  exact Post_put h hrd rfl
theorem spc_4 (hfn : f_CO_fn σ = 4) : f_PR_performOp0 σ = f_AR_shift σ 4 := by
  unfold f_PR_performOp0
  simp (decide := true) only [hfn, reduceIte]
  rw [i_PR_performOp0_c3]
  unfold f_AR_performOp0
  simp (decide := true) only [hfn, reduceIte]
  rw [i_AR_performOp0_c1]
theorem spm_4 (τ : MS) (i s t : Int32) (hfm : i &&& (63 : Int32) = 4) : f_MO_special τ i s t = f_MO_shift τ 4 ((i >>> ((11 : Int32) &&& 31)) &&& (31 : Int32)) (s &&& (31 : Int32)) t := by
  unfold f_MO_special
  simp (decide := true) only [hfm, reduceIte]
  unfold f_MO_special_112
  rw [i_MO_special_c4]
theorem sp_4 (h : R1 σ τ) (hn : m_slot τ = false → m_next τ = m_pc τ + 4) (hfn : f_CO_fn σ = 4) : Post (f_PR_performOp0 σ) (f_MO_special τ (x_instr σ) (f_CO_s σ) (f_CO_t σ)) := by
  have hfm : x_instr σ &&& (63 : Int32) = 4 := hfn
  have hrd := rdok σ
  rw [spc_4 hfn, spm_4 τ _ _ _ hfm, e_rd]
  unfold f_AR_shift f_MO_shift
  simp (decide := true) only [reduceIte, zb, i_AR_shift_c6, i_AR_shift_c5, i_AR_shift_c4, i_AR_shift_c3, i_AR_shift_c2, i_AR_shift_c1, i_MO_shift_c2, f_MO_shift_52, i_MO_shift_c1]
  exact Post_put h hrd rfl
theorem spc_5 (hfn : f_CO_fn σ = 5) : f_PR_performOp0 σ = f_AR_shift σ 5 := by
  unfold f_PR_performOp0
  simp (decide := true) only [hfn, reduceIte]
  rw [i_PR_performOp0_c3]
  unfold f_AR_performOp0
  simp (decide := true) only [hfn, reduceIte]
  rw [i_AR_performOp0_c1]
theorem spm_5 (τ : MS) (i s t : Int32) (hfm : i &&& (63 : Int32) = 5) : f_MO_special τ i s t = f_MO_shift τ 5 ((i >>> ((11 : Int32) &&& 31)) &&& (31 : Int32)) (s &&& (31 : Int32)) t := by
  unfold f_MO_special
  simp (decide := true) only [hfm, reduceIte]
  unfold f_MO_special_112
  rw [i_MO_special_c4]
theorem sp_5 (h : R1 σ τ) (hn : m_slot τ = false → m_next τ = m_pc τ + 4) (hfn : f_CO_fn σ = 5) : Post (f_PR_performOp0 σ) (f_MO_special τ (x_instr σ) (f_CO_s σ) (f_CO_t σ)) := by
  have hfm : x_instr σ &&& (63 : Int32) = 5 := hfn
  have hrd := rdok σ
  rw [spc_5 hfn, spm_5 τ _ _ _ hfm, e_rd]
  unfold f_AR_shift f_MO_shift
  simp (decide := true) only [reduceIte, zb, i_AR_shift_c6, i_AR_shift_c5, i_AR_shift_c4, i_AR_shift_c3, i_AR_shift_c2, i_AR_shift_c1, i_MO_shift_c2, f_MO_shift_52, i_MO_shift_c1]
  exact Post_raise h (by decide)
theorem spc_6 (hfn : f_CO_fn σ = 6) : f_PR_performOp0 σ = f_AR_shift σ 6 := by
  unfold f_PR_performOp0
  simp (decide := true) only [hfn, reduceIte]
  rw [i_PR_performOp0_c3]
  unfold f_AR_performOp0
  simp (decide := true) only [hfn, reduceIte]
  rw [i_AR_performOp0_c1]
theorem spm_6 (τ : MS) (i s t : Int32) (hfm : i &&& (63 : Int32) = 6) : f_MO_special τ i s t = f_MO_shift τ 6 ((i >>> ((11 : Int32) &&& 31)) &&& (31 : Int32)) (s &&& (31 : Int32)) t := by
  unfold f_MO_special
  simp (decide := true) only [hfm, reduceIte]
  unfold f_MO_special_112
  rw [i_MO_special_c4]
theorem sp_6 (h : R1 σ τ) (hn : m_slot τ = false → m_next τ = m_pc τ + 4) (hfn : f_CO_fn σ = 6) : Post (f_PR_performOp0 σ) (f_MO_special τ (x_instr σ) (f_CO_s σ) (f_CO_t σ)) := by
  have hfm : x_instr σ &&& (63 : Int32) = 6 := hfn
  have hrd := rdok σ
  rw [spc_6 hfn, spm_6 τ _ _ _ hfm, e_rd]
  unfold f_AR_shift f_MO_shift
  simp (decide := true) only [reduceIte, zb, i_AR_shift_c6, i_AR_shift_c5, i_AR_shift_c4, i_AR_shift_c3, i_AR_shift_c2, i_AR_shift_c1, i_MO_shift_c2, f_MO_shift_52, i_MO_shift_c1]
  exact Post_put h hrd rfl
theorem spc_7 (hfn : f_CO_fn σ = 7) : f_PR_performOp0 σ = f_AR_shift σ 7 := by
  unfold f_PR_performOp0
  simp (decide := true) only [hfn, reduceIte]
  rw [i_PR_performOp0_c3]
  unfold f_AR_performOp0
  simp (decide := true) only [hfn, reduceIte]
  rw [i_AR_performOp0_c1]
theorem spm_7 (τ : MS) (i s t : Int32) (hfm : i &&& (63 : Int32) = 7) : f_MO_special τ i s t = f_MO_shift τ 7 ((i >>> ((11 : Int32) &&& 31)) &&& (31 : Int32)) (s &&& (31 : Int32)) t := by
  unfold f_MO_special
  simp (decide := true) only [hfm, reduceIte]
  unfold f_MO_special_112
  rw [i_MO_special_c4]
theorem sp_7 (h : R1 σ τ) (hn : m_slot τ = false → m_next τ = m_pc τ + 4) (hfn : f_CO_fn σ = 7) : Post (f_PR_performOp0 σ) (f_MO_special τ (x_instr σ) (f_CO_s σ) (f_CO_t σ)) := by
  have hfm : x_instr σ &&& (63 : Int32) = 7 := hfn
  have hrd := rdok σ
  rw [spc_7 hfn, spm_7 τ _ _ _ hfm, e_rd]
  unfold f_AR_shift f_MO_shift
  simp (decide := true) only [reduceIte, zb, i_AR_shift_c6, i_AR_shift_c5, i_AR_shift_c4, i_AR_shift_c3, i_AR_shift_c2, i_AR_shift_c1, i_MO_shift_c2, f_MO_shift_52, i_MO_shift_c1]
  exact Post_put h hrd rfl
theorem spc_8 (hfn : f_CO_fn σ = 8) : f_PR_performOp0 σ = f_BR_jumpToRegister σ false := by
  unfold f_PR_performOp0
  simp (decide := true) only [hfn, reduceIte]
  rw [i_PR_performOp0_c1]
theorem spm_8 (τ : MS) (i s t : Int32) (hfm : i &&& (63 : Int32) = 8) : f_MO_special τ i s t = f_MO_special_38 τ i s t 8 ((i >>> ((11 : Int32) &&& 31)) &&& (31 : Int32)) := by
  unfold f_MO_special
  simp (decide := true) only [hfm, reduceIte]
theorem sp_8 (h : R1 σ τ) (hn : m_slot τ = false → m_next τ = m_pc τ + 4) (hfn : f_CO_fn σ = 8) : Post (f_PR_performOp0 σ) (f_MO_special τ (x_instr σ) (f_CO_s σ) (f_CO_t σ)) := by
  have hfm : x_instr σ &&& (63 : Int32) = 8 := hfn
  have hrd := rdok σ
  rw [spc_8 hfn, spm_8 τ _ _ _ hfm, e_rd]
  have hsl := R_inds h.1
  unfold f_BR_jumpToRegister f_MO_special_38
  rw [hsl]
  cases hs : m_slot τ
  · have hn2 := hn hs
    simp (decide := true) only [reduceIte, zb]
    simp (decide := true) only [f_BR_jumpToRegister_c1, zb, reduceIte, f_MO_special_75, i_MO_special_c8]
    rw [br_eq]
    exact Or.inl ⟨rfl, goB_ag h hn2 _⟩
  · simp (decide := true) only [reduceIte, zb, i_MO_special_c7]
    exact Post_raise h (by decide)
theorem spc_9 (hfn : f_CO_fn σ = 9) : f_PR_performOp0 σ = f_BR_jumpToRegister σ true := by
  unfold f_PR_performOp0
  simp (decide := true) only [hfn, reduceIte]
  rw [i_PR_performOp0_c2]
theorem spm_9 (τ : MS) (i s t : Int32) (hfm : i &&& (63 : Int32) = 9) : f_MO_special τ i s t = f_MO_special_38 τ i s t 9 ((i >>> ((11 : Int32) &&& 31)) &&& (31 : Int32)) := by
  unfold f_MO_special
  simp (decide := true) only [hfm, reduceIte]
theorem sp_9 (h : R1 σ τ) (hn : m_slot τ = false → m_next τ = m_pc τ + 4) (hfn : f_CO_fn σ = 9) : Post (f_PR_performOp0 σ) (f_MO_special τ (x_instr σ) (f_CO_s σ) (f_CO_t σ)) := by
  have hfm : x_instr σ &&& (63 : Int32) = 9 := hfn
  have hrd := rdok σ
  rw [spc_9 hfn, spm_9 τ _ _ _ hfm, e_rd]
  have hsl := R_inds h.1
  unfold f_BR_jumpToRegister f_MO_special_38
  rw [hsl]
  cases hs : m_slot τ
  · have hn2 := hn hs
    simp (decide := true) only [reduceIte, zb]
    have hp := R1_put h (m_pc τ + 8) hrd
    have hm := put_m τ (f_CO_rd σ) (m_pc τ + 8)
    have e1 : x_pc (f_CO_goBehindSlotTo σ (f_CO_s σ)) = m_pc τ := by
      rw [← R_pc h.1]
      rfl
    have e2 : f_CO_rd (f_CO_goBehindSlotTo σ (f_CO_s σ)) = f_CO_rd σ := rfl
    unfold f_BR_jumpToRegister_c1
    simp (decide := true) only [zb, reduceIte, i_BR_jumpToRegister_c2, f_MO_special_c6, f_MO_special_75, i_MO_special_c8, e1, e2, put_goB]
    rw [br_eq]
    exact Or.inl ⟨rfl, goB_ag hp.1 (by rw [hm.1, hm.2.1, hn2]) _⟩
  · simp (decide := true) only [reduceIte, zb, i_MO_special_c7]
    exact Post_raise h (by decide)
theorem spc_10 (hfn : f_CO_fn σ = 10) : f_PR_performOp0 σ = f_AR_moveOrCall σ 10 := by
  unfold f_PR_performOp0
  simp (decide := true) only [hfn, reduceIte]
  rw [i_PR_performOp0_c3]
  unfold f_AR_performOp0
  simp (decide := true) only [hfn, reduceIte]
  rw [i_AR_performOp0_c2]
theorem spm_10 (τ : MS) (i s t : Int32) (hfm : i &&& (63 : Int32) = 10) : f_MO_special τ i s t = f_MO_moves τ 10 ((i >>> ((11 : Int32) &&& 31)) &&& (31 : Int32)) s t := by
  unfold f_MO_special
  simp (decide := true) only [hfm, reduceIte]
  rw [i_MO_special_c3]
theorem sp_10 (h : R1 σ τ) (hn : m_slot τ = false → m_next τ = m_pc τ + 4) (hfn : f_CO_fn σ = 10) : Post (f_PR_performOp0 σ) (f_MO_special τ (x_instr σ) (f_CO_s σ) (f_CO_t σ)) := by
  have hfm : x_instr σ &&& (63 : Int32) = 10 := hfn
  have hrd := rdok σ
  rw [spc_10 hfn, spm_10 τ _ _ _ hfm, e_rd]
  unfold f_AR_moveOrCall f_MO_moves
  simp (decide := true) only [reduceIte, zb, i_AR_moveOrCall_c2, i_AR_moveOrCall_c1, i_MO_moves_c6, f_MO_moves_33, f_MO_moves_22, f_MO_moves_12, i_MO_moves_c5, f_MO_moves_71, f_MO_moves_57, i_MO_moves_c4, f_MO_moves_109, f_MO_moves_90, i_MO_moves_c3, i_MO_moves_c2, i_MO_moves_c1]
  by_cases e : f_CO_t σ = 0
  · simp (decide := true) only [if_pos e, reduceIte]
    exact Post_put h hrd rfl
  · simp (decide := true) only [if_neg e, reduceIte]
    exact Post_ok h
theorem spc_11 (hfn : f_CO_fn σ = 11) : f_PR_performOp0 σ = f_AR_moveOrCall σ 11 := by
  unfold f_PR_performOp0
  simp (decide := true) only [hfn, reduceIte]
  rw [i_PR_performOp0_c3]
  unfold f_AR_performOp0
  simp (decide := true) only [hfn, reduceIte]
  rw [i_AR_performOp0_c2]
theorem spm_11 (τ : MS) (i s t : Int32) (hfm : i &&& (63 : Int32) = 11) : f_MO_special τ i s t = f_MO_moves τ 11 ((i >>> ((11 : Int32) &&& 31)) &&& (31 : Int32)) s t := by
  unfold f_MO_special
  simp (decide := true) only [hfm, reduceIte]
  rw [i_MO_special_c3]
theorem sp_11 (h : R1 σ τ) (hn : m_slot τ = false → m_next τ = m_pc τ + 4) (hfn : f_CO_fn σ = 11) : Post (f_PR_performOp0 σ) (f_MO_special τ (x_instr σ) (f_CO_s σ) (f_CO_t σ)) := by
  have hfm : x_instr σ &&& (63 : Int32) = 11 := hfn
  have hrd := rdok σ
  rw [spc_11 hfn, spm_11 τ _ _ _ hfm, e_rd]
  unfold f_AR_moveOrCall f_MO_moves
  simp (decide := true) only [reduceIte, zb, i_AR_moveOrCall_c2, i_AR_moveOrCall_c1, i_MO_moves_c6, f_MO_moves_33, f_MO_moves_22, f_MO_moves_12, i_MO_moves_c5, f_MO_moves_71, f_MO_moves_57, i_MO_moves_c4, f_MO_moves_109, f_MO_moves_90, i_MO_moves_c3, i_MO_moves_c2, i_MO_moves_c1]
  by_cases e : f_CO_t σ = 0
  · simp (decide := true) only [if_pos e, reduceIte]
    exact Post_ok h
  · simp (decide := true) only [if_neg e, reduceIte]
    exact Post_put h hrd rfl
theorem spc_12 (hfn : f_CO_fn σ = 12) : f_PR_performOp0 σ = f_AR_moveOrCall σ 12 := by
  unfold f_PR_performOp0
  simp (decide := true) only [hfn, reduceIte]
  rw [i_PR_performOp0_c3]
  unfold f_AR_performOp0
  simp (decide := true) only [hfn, reduceIte]
  rw [i_AR_performOp0_c2]
theorem spm_12 (τ : MS) (i s t : Int32) (hfm : i &&& (63 : Int32) = 12) : f_MO_special τ i s t = f_MO_moves τ 12 ((i >>> ((11 : Int32) &&& 31)) &&& (31 : Int32)) s t := by
  unfold f_MO_special
  simp (decide := true) only [hfm, reduceIte]
  rw [i_MO_special_c3]
theorem sp_12 (h : R1 σ τ) (hn : m_slot τ = false → m_next τ = m_pc τ + 4) (hfn : f_CO_fn σ = 12) : Post (f_PR_performOp0 σ) (f_MO_special τ (x_instr σ) (f_CO_s σ) (f_CO_t σ)) := by
  have hfm : x_instr σ &&& (63 : Int32) = 12 := hfn
  have hrd := rdok σ
  rw [spc_12 hfn, spm_12 τ _ _ _ hfm, e_rd]
  unfold f_AR_moveOrCall f_MO_moves
  simp (decide := true) only [reduceIte, zb, i_AR_moveOrCall_c2, i_AR_moveOrCall_c1, i_MO_moves_c6, f_MO_moves_33, f_MO_moves_22, f_MO_moves_12, i_MO_moves_c5, f_MO_moves_71, f_MO_moves_57, i_MO_moves_c4, f_MO_moves_109, f_MO_moves_90, i_MO_moves_c3, i_MO_moves_c2, i_MO_moves_c1]
  exact Post_raise h (c := 8) (by decide)
theorem spc_13 (hfn : f_CO_fn σ = 13) : f_PR_performOp0 σ = f_AR_moveOrCall σ 13 := by
  unfold f_PR_performOp0
  simp (decide := true) only [hfn, reduceIte]
  rw [i_PR_performOp0_c3]
  unfold f_AR_performOp0
  simp (decide := true) only [hfn, reduceIte]
  rw [i_AR_performOp0_c2]
theorem spm_13 (τ : MS) (i s t : Int32) (hfm : i &&& (63 : Int32) = 13) : f_MO_special τ i s t = f_MO_moves τ 13 ((i >>> ((11 : Int32) &&& 31)) &&& (31 : Int32)) s t := by
  unfold f_MO_special
  simp (decide := true) only [hfm, reduceIte]
  rw [i_MO_special_c3]
theorem sp_13 (h : R1 σ τ) (hn : m_slot τ = false → m_next τ = m_pc τ + 4) (hfn : f_CO_fn σ = 13) : Post (f_PR_performOp0 σ) (f_MO_special τ (x_instr σ) (f_CO_s σ) (f_CO_t σ)) := by
  have hfm : x_instr σ &&& (63 : Int32) = 13 := hfn
  have hrd := rdok σ
  rw [spc_13 hfn, spm_13 τ _ _ _ hfm, e_rd]
  unfold f_AR_moveOrCall f_MO_moves
  simp (decide := true) only [reduceIte, zb, i_AR_moveOrCall_c2, i_AR_moveOrCall_c1, i_MO_moves_c6, f_MO_moves_33, f_MO_moves_22, f_MO_moves_12, i_MO_moves_c5, f_MO_moves_71, f_MO_moves_57, i_MO_moves_c4, f_MO_moves_109, f_MO_moves_90, i_MO_moves_c3, i_MO_moves_c2, i_MO_moves_c1]
  exact Post_raise h (c := 9) (by decide)
theorem spc_14 (hfn : f_CO_fn σ = 14) : f_PR_performOp0 σ = f_AR_moveOrCall σ 14 := by
  unfold f_PR_performOp0
  simp (decide := true) only [hfn, reduceIte]
  rw [i_PR_performOp0_c3]
  unfold f_AR_performOp0
  simp (decide := true) only [hfn, reduceIte]
  rw [i_AR_performOp0_c2]
theorem spm_14 (τ : MS) (i s t : Int32) (hfm : i &&& (63 : Int32) = 14) : f_MO_special τ i s t = f_MO_moves τ 14 ((i >>> ((11 : Int32) &&& 31)) &&& (31 : Int32)) s t := by
  unfold f_MO_special
  simp (decide := true) only [hfm, reduceIte]
  rw [i_MO_special_c3]
theorem sp_14 (h : R1 σ τ) (hn : m_slot τ = false → m_next τ = m_pc τ + 4) (hfn : f_CO_fn σ = 14) : Post (f_PR_performOp0 σ) (f_MO_special τ (x_instr σ) (f_CO_s σ) (f_CO_t σ)) := by
  have hfm : x_instr σ &&& (63 : Int32) = 14 := hfn
  have hrd := rdok σ
  rw [spc_14 hfn, spm_14 τ _ _ _ hfm, e_rd]
  unfold f_AR_moveOrCall f_MO_moves
  simp (decide := true) only [reduceIte, zb, i_AR_moveOrCall_c2, i_AR_moveOrCall_c1, i_MO_moves_c6, f_MO_moves_33, f_MO_moves_22, f_MO_moves_12, i_MO_moves_c5, f_MO_moves_71, f_MO_moves_57, i_MO_moves_c4, f_MO_moves_109, f_MO_moves_90, i_MO_moves_c3, i_MO_moves_c2, i_MO_moves_c1]
  exact Post_raise h (by decide)
theorem spc_15 (hfn : f_CO_fn σ = 15) : f_PR_performOp0 σ = f_AR_moveOrCall σ 15 := by
  unfold f_PR_performOp0
  simp (decide := true) only [hfn, reduceIte]
  rw [i_PR_performOp0_c3]
  unfold f_AR_performOp0
  simp (decide := true) only [hfn, reduceIte]
  rw [i_AR_performOp0_c2]
theorem spm_15 (τ : MS) (i s t : Int32) (hfm : i &&& (63 : Int32) = 15) : f_MO_special τ i s t = f_MO_moves τ 15 ((i >>> ((11 : Int32) &&& 31)) &&& (31 : Int32)) s t := by
  unfold f_MO_special
  simp (decide := true) only [hfm, reduceIte]
  rw [i_MO_special_c3]
theorem sp_15 (h : R1 σ τ) (hn : m_slot τ = false → m_next τ = m_pc τ + 4) (hfn : f_CO_fn σ = 15) : Post (f_PR_performOp0 σ) (f_MO_special τ (x_instr σ) (f_CO_s σ) (f_CO_t σ)) := by
  have hfm : x_instr σ &&& (63 : Int32) = 15 := hfn
  have hrd := rdok σ
  rw [spc_15 hfn, spm_15 τ _ _ _ hfm, e_rd]
  unfold f_AR_moveOrCall f_MO_moves
  simp (decide := true) only [reduceIte, zb, i_AR_moveOrCall_c2, i_AR_moveOrCall_c1, i_MO_moves_c6, f_MO_moves_33, f_MO_moves_22, f_MO_moves_12, i_MO_moves_c5, f_MO_moves_71, f_MO_moves_57, i_MO_moves_c4, f_MO_moves_109, f_MO_moves_90, i_MO_moves_c3, i_MO_moves_c2, i_MO_moves_c1]
  exact Post_ok h
theorem spc_16 (hfn : f_CO_fn σ = 16) : f_PR_performOp0 σ = f_AR_moveHiLo σ 16 := by
  unfold f_PR_performOp0
  simp (decide := true) only [hfn, reduceIte]
  rw [i_PR_performOp0_c3]
  unfold f_AR_performOp0
  simp (decide := true) only [hfn, reduceIte]
  rw [i_AR_performOp0_c3]
theorem spm_16 (τ : MS) (i s t : Int32) (hfm : i &&& (63 : Int32) = 16) : f_MO_special τ i s t = f_MO_moves τ 16 ((i >>> ((11 : Int32) &&& 31)) &&& (31 : Int32)) s t := by
  unfold f_MO_special
  simp (decide := true) only [hfm, reduceIte]
  rw [i_MO_special_c3]
theorem sp_16 (h : R1 σ τ) (hn : m_slot τ = false → m_next τ = m_pc τ + 4) (hfn : f_CO_fn σ = 16) : Post (f_PR_performOp0 σ) (f_MO_special τ (x_instr σ) (f_CO_s σ) (f_CO_t σ)) := by
  have hfm : x_instr σ &&& (63 : Int32) = 16 := hfn
  have hrd := rdok σ
  rw [spc_16 hfn, spm_16 τ _ _ _ hfm, e_rd]
  unfold f_AR_moveHiLo f_MO_moves
  simp (decide := true) only [reduceIte, zb, f_AR_moveHiLo_c4, i_AR_moveHiLo_c3, f_AR_moveHiLo_c2, i_AR_moveHiLo_c1, i_MO_moves_c6, f_MO_moves_33, f_MO_moves_22, f_MO_moves_12, i_MO_moves_c5, f_MO_moves_71, f_MO_moves_57, i_MO_moves_c4, f_MO_moves_109, f_MO_moves_90, i_MO_moves_c3, i_MO_moves_c2, i_MO_moves_c1]
  exact Post_put h hrd (R_hi h.1)
theorem spc_17 (hfn : f_CO_fn σ = 17) : f_PR_performOp0 σ = f_AR_moveHiLo σ 17 := by
  unfold f_PR_performOp0
  simp (decide := true) only [hfn, reduceIte]
  rw [i_PR_performOp0_c3]
  unfold f_AR_performOp0
  simp (decide := true) only [hfn, reduceIte]
  rw [i_AR_performOp0_c3]
theorem spm_17 (τ : MS) (i s t : Int32) (hfm : i &&& (63 : Int32) = 17) : f_MO_special τ i s t = f_MO_moves τ 17 ((i >>> ((11 : Int32) &&& 31)) &&& (31 : Int32)) s t := by
  unfold f_MO_special
  simp (decide := true) only [hfm, reduceIte]
  rw [i_MO_special_c3]
theorem sp_17 (h : R1 σ τ) (hn : m_slot τ = false → m_next τ = m_pc τ + 4) (hfn : f_CO_fn σ = 17) : Post (f_PR_performOp0 σ) (f_MO_special τ (x_instr σ) (f_CO_s σ) (f_CO_t σ)) := by
  have hfm : x_instr σ &&& (63 : Int32) = 17 := hfn
  have hrd := rdok σ
  rw [spc_17 hfn, spm_17 τ _ _ _ hfm, e_rd]
  unfold f_AR_moveHiLo f_MO_moves
  simp (decide := true) only [reduceIte, zb, f_AR_moveHiLo_c4, i_AR_moveHiLo_c3, f_AR_moveHiLo_c2, i_AR_moveHiLo_c1, i_MO_moves_c6, f_MO_moves_33, f_MO_moves_22, f_MO_moves_12, i_MO_moves_c5, f_MO_moves_71, f_MO_moves_57, i_MO_moves_c4, f_MO_moves_109, f_MO_moves_90, i_MO_moves_c3, i_MO_moves_c2, i_MO_moves_c1]
  exact Or.inl ⟨rfl, R1_hi h _⟩
theorem spc_18 (hfn : f_CO_fn σ = 18) : f_PR_performOp0 σ = f_AR_moveHiLo σ 18 := by
  unfold f_PR_performOp0
  simp (decide := true) only [hfn, reduceIte]
  rw [i_PR_performOp0_c3]
  unfold f_AR_performOp0
  simp (decide := true) only [hfn, reduceIte]
  rw [i_AR_performOp0_c3]
theorem spm_18 (τ : MS) (i s t : Int32) (hfm : i &&& (63 : Int32) = 18) : f_MO_special τ i s t = f_MO_moves τ 18 ((i >>> ((11 : Int32) &&& 31)) &&& (31 : Int32)) s t := by
  unfold f_MO_special
  simp (decide := true) only [hfm, reduceIte]
  rw [i_MO_special_c3]
theorem sp_18 (h : R1 σ τ) (hn : m_slot τ = false → m_next τ = m_pc τ + 4) (hfn : f_CO_fn σ = 18) : Post (f_PR_performOp0 σ) (f_MO_special τ (x_instr σ) (f_CO_s σ) (f_CO_t σ)) := by
  have hfm : x_instr σ &&& (63 : Int32) = 18 := hfn
  have hrd := rdok σ
  rw [spc_18 hfn, spm_18 τ _ _ _ hfm, e_rd]
  unfold f_AR_moveHiLo f_MO_moves
  simp (decide := true) only [reduceIte, zb, f_AR_moveHiLo_c4, i_AR_moveHiLo_c3, f_AR_moveHiLo_c2, i_AR_moveHiLo_c1, i_MO_moves_c6, f_MO_moves_33, f_MO_moves_22, f_MO_moves_12, i_MO_moves_c5, f_MO_moves_71, f_MO_moves_57, i_MO_moves_c4, f_MO_moves_109, f_MO_moves_90, i_MO_moves_c3, i_MO_moves_c2, i_MO_moves_c1]
  exact Post_put h hrd (R_lo h.1)
theorem spc_19 (hfn : f_CO_fn σ = 19) : f_PR_performOp0 σ = f_AR_moveHiLo σ 19 := by
  unfold f_PR_performOp0
  simp (decide := true) only [hfn, reduceIte]
  rw [i_PR_performOp0_c3]
  unfold f_AR_performOp0
  simp (decide := true) only [hfn, reduceIte]
  rw [i_AR_performOp0_c3]
theorem spm_19 (τ : MS) (i s t : Int32) (hfm : i &&& (63 : Int32) = 19) : f_MO_special τ i s t = f_MO_moves τ 19 ((i >>> ((11 : Int32) &&& 31)) &&& (31 : Int32)) s t := by
  unfold f_MO_special
  simp (decide := true) only [hfm, reduceIte]
  rw [i_MO_special_c3]
theorem sp_19 (h : R1 σ τ) (hn : m_slot τ = false → m_next τ = m_pc τ + 4) (hfn : f_CO_fn σ = 19) : Post (f_PR_performOp0 σ) (f_MO_special τ (x_instr σ) (f_CO_s σ) (f_CO_t σ)) := by
  have hfm : x_instr σ &&& (63 : Int32) = 19 := hfn
  have hrd := rdok σ
  rw [spc_19 hfn, spm_19 τ _ _ _ hfm, e_rd]
  unfold f_AR_moveHiLo f_MO_moves
  simp (decide := true) only [reduceIte, zb, f_AR_moveHiLo_c4, i_AR_moveHiLo_c3, f_AR_moveHiLo_c2, i_AR_moveHiLo_c1, i_MO_moves_c6, f_MO_moves_33, f_MO_moves_22, f_MO_moves_12, i_MO_moves_c5, f_MO_moves_71, f_MO_moves_57, i_MO_moves_c4, f_MO_moves_109, f_MO_moves_90, i_MO_moves_c3, i_MO_moves_c2, i_MO_moves_c1]
  exact Or.inl ⟨rfl, R1_lo h _⟩
theorem spc_20 (hfn : f_CO_fn σ = 20) : f_PR_performOp0 σ = f_AR_moveHiLo σ 20 := by
  unfold f_PR_performOp0
  simp (decide := true) only [hfn, reduceIte]
  rw [i_PR_performOp0_c3]
  unfold f_AR_performOp0
  simp (decide := true) only [hfn, reduceIte]
  rw [i_AR_performOp0_c3]
theorem spm_20 (τ : MS) (i s t : Int32) (hfm : i &&& (63 : Int32) = 20) : f_MO_special τ i s t = f_MO_moves τ 20 ((i >>> ((11 : Int32) &&& 31)) &&& (31 : Int32)) s t := by
  unfold f_MO_special
  simp (decide := true) only [hfm, reduceIte]
  rw [i_MO_special_c3]
theorem sp_20 (h : R1 σ τ) (hn : m_slot τ = false → m_next τ = m_pc τ + 4) (hfn : f_CO_fn σ = 20) : Post (f_PR_performOp0 σ) (f_MO_special τ (x_instr σ) (f_CO_s σ) (f_CO_t σ)) := by
  have hfm : x_instr σ &&& (63 : Int32) = 20 := hfn
  have hrd := rdok σ
  rw [spc_20 hfn, spm_20 τ _ _ _ hfm, e_rd]
  unfold f_AR_moveHiLo f_MO_moves
  simp (decide := true) only [reduceIte, zb, f_AR_moveHiLo_c4, i_AR_moveHiLo_c3, f_AR_moveHiLo_c2, i_AR_moveHiLo_c1, i_MO_moves_c6, f_MO_moves_33, f_MO_moves_22, f_MO_moves_12, i_MO_moves_c5, f_MO_moves_71, f_MO_moves_57, i_MO_moves_c4, f_MO_moves_109, f_MO_moves_90, i_MO_moves_c3, i_MO_moves_c2, i_MO_moves_c1]
  exact Post_raise h (by decide)
theorem spc_21 (hfn : f_CO_fn σ = 21) : f_PR_performOp0 σ = f_AR_moveHiLo σ 21 := by
  unfold f_PR_performOp0
  simp (decide := true) only [hfn, reduceIte]
  rw [i_PR_performOp0_c3]
  unfold f_AR_performOp0
  simp (decide := true) only [hfn, reduceIte]
  rw [i_AR_performOp0_c3]
theorem spm_21 (τ : MS) (i s t : Int32) (hfm : i &&& (63 : Int32) = 21) : f_MO_special τ i s t = f_MO_moves τ 21 ((i >>> ((11 : Int32) &&& 31)) &&& (31 : Int32)) s t := by
  unfold f_MO_special
  simp (decide := true) only [hfm, reduceIte]
  rw [i_MO_special_c3]
theorem sp_21 (h : R1 σ τ) (hn : m_slot τ = false → m_next τ = m_pc τ + 4) (hfn : f_CO_fn σ = 21) : Post (f_PR_performOp0 σ) (f_MO_special τ (x_instr σ) (f_CO_s σ) (f_CO_t σ)) := by
  have hfm : x_instr σ &&& (63 : Int32) = 21 := hfn
  have hrd := rdok σ
  rw [spc_21 hfn, spm_21 τ _ _ _ hfm, e_rd]
  unfold f_AR_moveHiLo f_MO_moves
  simp (decide := true) only [reduceIte, zb, f_AR_moveHiLo_c4, i_AR_moveHiLo_c3, f_AR_moveHiLo_c2, i_AR_moveHiLo_c1, i_MO_moves_c6, f_MO_moves_33, f_MO_moves_22, f_MO_moves_12, i_MO_moves_c5, f_MO_moves_71, f_MO_moves_57, i_MO_moves_c4, f_MO_moves_109, f_MO_moves_90, i_MO_moves_c3, i_MO_moves_c2, i_MO_moves_c1]
  exact Post_raise h (by decide)
theorem spc_22 (hfn : f_CO_fn σ = 22) : f_PR_performOp0 σ = f_AR_moveHiLo σ 22 := by
  unfold f_PR_performOp0
  simp (decide := true) only [hfn, reduceIte]
  rw [i_PR_performOp0_c3]
  unfold f_AR_performOp0
  simp (decide := true) only [hfn, reduceIte]
  rw [i_AR_performOp0_c3]
theorem spm_22 (τ : MS) (i s t : Int32) (hfm : i &&& (63 : Int32) = 22) : f_MO_special τ i s t = f_MO_moves τ 22 ((i >>> ((11 : Int32) &&& 31)) &&& (31 : Int32)) s t := by
  unfold f_MO_special
  simp (decide := true) only [hfm, reduceIte]
  rw [i_MO_special_c3]
theorem sp_22 (h : R1 σ τ) (hn : m_slot τ = false → m_next τ = m_pc τ + 4) (hfn : f_CO_fn σ = 22) : Post (f_PR_performOp0 σ) (f_MO_special τ (x_instr σ) (f_CO_s σ) (f_CO_t σ)) := by
  have hfm : x_instr σ &&& (63 : Int32) = 22 := hfn
  have hrd := rdok σ
  rw [spc_22 hfn, spm_22 τ _ _ _ hfm, e_rd]
  unfold f_AR_moveHiLo f_MO_moves
  simp (decide := true) only [reduceIte, zb, f_AR_moveHiLo_c4, i_AR_moveHiLo_c3, f_AR_moveHiLo_c2, i_AR_moveHiLo_c1, i_MO_moves_c6, f_MO_moves_33, f_MO_moves_22, f_MO_moves_12, i_MO_moves_c5, f_MO_moves_71, f_MO_moves_57, i_MO_moves_c4, f_MO_moves_109, f_MO_moves_90, i_MO_moves_c3, i_MO_moves_c2, i_MO_moves_c1]
  exact Post_raise h (by decide)
theorem spc_23 (hfn : f_CO_fn σ = 23) : f_PR_performOp0 σ = f_AR_moveHiLo σ 23 := by
  unfold f_PR_performOp0
  simp (decide := true) only [hfn, reduceIte]
  rw [i_PR_performOp0_c3]
  unfold f_AR_performOp0
  simp (decide := true) only [hfn, reduceIte]
  rw [i_AR_performOp0_c3]
theorem spm_23 (τ : MS) (i s t : Int32) (hfm : i &&& (63 : Int32) = 23) : f_MO_special τ i s t = f_MO_moves τ 23 ((i >>> ((11 : Int32) &&& 31)) &&& (31 : Int32)) s t := by
  unfold f_MO_special
  simp (decide := true) only [hfm, reduceIte]
  rw [i_MO_special_c3]
theorem sp_23 (h : R1 σ τ) (hn : m_slot τ = false → m_next τ = m_pc τ + 4) (hfn : f_CO_fn σ = 23) : Post (f_PR_performOp0 σ) (f_MO_special τ (x_instr σ) (f_CO_s σ) (f_CO_t σ)) := by
  have hfm : x_instr σ &&& (63 : Int32) = 23 := hfn
  have hrd := rdok σ
  rw [spc_23 hfn, spm_23 τ _ _ _ hfm, e_rd]
  unfold f_AR_moveHiLo f_MO_moves
  simp (decide := true) only [reduceIte, zb, f_AR_moveHiLo_c4, i_AR_moveHiLo_c3, f_AR_moveHiLo_c2, i_AR_moveHiLo_c1, i_MO_moves_c6, f_MO_moves_33, f_MO_moves_22, f_MO_moves_12, i_MO_moves_c5, f_MO_moves_71, f_MO_moves_57, i_MO_moves_c4, f_MO_moves_109, f_MO_moves_90, i_MO_moves_c3, i_MO_moves_c2, i_MO_moves_c1]
  exact Post_raise h (by decide)
theorem spc_24 (hfn : f_CO_fn σ = 24) : f_PR_performOp0 σ = f_AR_multiplyOrDivide σ 24 := by
  unfold f_PR_performOp0
  simp (decide := true) only [hfn, reduceIte]
  rw [i_PR_performOp0_c3]
  unfold f_AR_performOp0
  simp (decide := true) only [hfn, reduceIte]
  rw [i_AR_performOp0_c4]
theorem spm_24 (τ : MS) (i s t : Int32) (hfm : i &&& (63 : Int32) = 24) : f_MO_special τ i s t = f_MO_divides τ 24 s t := by
  unfold f_MO_special
  simp (decide := true) only [hfm, reduceIte]
  rw [i_MO_special_c2]
theorem sp_24 (h : R1 σ τ) (hn : m_slot τ = false → m_next τ = m_pc τ + 4) (hfn : f_CO_fn σ = 24) : Post (f_PR_performOp0 σ) (f_MO_special τ (x_instr σ) (f_CO_s σ) (f_CO_t σ)) := by
  have hfm : x_instr σ &&& (63 : Int32) = 24 := hfn
  have hrd := rdok σ
  rw [spc_24 hfn, spm_24 τ _ _ _ hfm]
  unfold f_AR_multiplyOrDivide f_MO_divides
  simp (decide := true) only [reduceIte, zb, i_AR_multiplyOrDivide_c4, i_AR_multiplyOrDivide_c3, i_AR_multiplyOrDivide_c2, i_AR_multiplyOrDivide_c1, i_MO_divides_c3, i_MO_divides_c2, f_MO_divides_c1, f_MO_divides_17, f_MO_divides_12]
  exact Post_both h rfl
theorem spc_25 (hfn : f_CO_fn σ = 25) : f_PR_performOp0 σ = f_AR_multiplyOrDivide σ 25 := by
  unfold f_PR_performOp0
  simp (decide := true) only [hfn, reduceIte]
  rw [i_PR_performOp0_c3]
  unfold f_AR_performOp0
  simp (decide := true) only [hfn, reduceIte]
  rw [i_AR_performOp0_c4]
theorem spm_25 (τ : MS) (i s t : Int32) (hfm : i &&& (63 : Int32) = 25) : f_MO_special τ i s t = f_MO_divides τ 25 s t := by
  unfold f_MO_special
  simp (decide := true) only [hfm, reduceIte]
  rw [i_MO_special_c2]
theorem sp_25 (h : R1 σ τ) (hn : m_slot τ = false → m_next τ = m_pc τ + 4) (hfn : f_CO_fn σ = 25) : Post (f_PR_performOp0 σ) (f_MO_special τ (x_instr σ) (f_CO_s σ) (f_CO_t σ)) := by
  have hfm : x_instr σ &&& (63 : Int32) = 25 := hfn
  have hrd := rdok σ
  rw [spc_25 hfn, spm_25 τ _ _ _ hfm]
  unfold f_AR_multiplyOrDivide f_MO_divides
  simp (decide := true) only [reduceIte, zb, i_AR_multiplyOrDivide_c4, i_AR_multiplyOrDivide_c3, i_AR_multiplyOrDivide_c2, i_AR_multiplyOrDivide_c1, i_MO_divides_c3, i_MO_divides_c2, f_MO_divides_c1, f_MO_divides_17, f_MO_divides_12]
  exact Post_both h rfl
theorem spc_26 (hfn : f_CO_fn σ = 26) : f_PR_performOp0 σ = f_AR_multiplyOrDivide σ 26 := by
  unfold f_PR_performOp0
  simp (decide := true) only [hfn, reduceIte]
  rw [i_PR_performOp0_c3]
  unfold f_AR_performOp0
  simp (decide := true) only [hfn, reduceIte]
  rw [i_AR_performOp0_c4]
theorem spm_26 (τ : MS) (i s t : Int32) (hfm : i &&& (63 : Int32) = 26) : f_MO_special τ i s t = f_MO_divides τ 26 s t := by
  unfold f_MO_special
  simp (decide := true) only [hfm, reduceIte]
  rw [i_MO_special_c2]
theorem sp_26 (h : R1 σ τ) (hn : m_slot τ = false → m_next τ = m_pc τ + 4) (hfn : f_CO_fn σ = 26) : Post (f_PR_performOp0 σ) (f_MO_special τ (x_instr σ) (f_CO_s σ) (f_CO_t σ)) := by
  have hfm : x_instr σ &&& (63 : Int32) = 26 := hfn
  have hrd := rdok σ
  rw [spc_26 hfn, spm_26 τ _ _ _ hfm]
  unfold f_AR_multiplyOrDivide f_MO_divides
  simp (decide := true) only [reduceIte, zb, i_AR_multiplyOrDivide_c4, i_AR_multiplyOrDivide_c3, i_AR_multiplyOrDivide_c2, i_AR_multiplyOrDivide_c1, i_MO_divides_c3, i_MO_divides_c2, f_MO_divides_c1, f_MO_divides_17, f_MO_divides_12]
  exact Post_div h _ _
theorem spc_27 (hfn : f_CO_fn σ = 27) : f_PR_performOp0 σ = f_AR_multiplyOrDivide σ 27 := by
  unfold f_PR_performOp0
  simp (decide := true) only [hfn, reduceIte]
  rw [i_PR_performOp0_c3]
  unfold f_AR_performOp0
  simp (decide := true) only [hfn, reduceIte]
  rw [i_AR_performOp0_c4]
theorem spm_27 (τ : MS) (i s t : Int32) (hfm : i &&& (63 : Int32) = 27) : f_MO_special τ i s t = f_MO_divides τ 27 s t := by
  unfold f_MO_special
  simp (decide := true) only [hfm, reduceIte]
  rw [i_MO_special_c2]
theorem sp_27 (h : R1 σ τ) (hn : m_slot τ = false → m_next τ = m_pc τ + 4) (hfn : f_CO_fn σ = 27) : Post (f_PR_performOp0 σ) (f_MO_special τ (x_instr σ) (f_CO_s σ) (f_CO_t σ)) := by
  have hfm : x_instr σ &&& (63 : Int32) = 27 := hfn
  have hrd := rdok σ
  rw [spc_27 hfn, spm_27 τ _ _ _ hfm]
  unfold f_AR_multiplyOrDivide f_MO_divides
  simp (decide := true) only [reduceIte, zb, i_AR_multiplyOrDivide_c4, i_AR_multiplyOrDivide_c3, i_AR_multiplyOrDivide_c2, i_AR_multiplyOrDivide_c1, i_MO_divides_c3, i_MO_divides_c2, f_MO_divides_c1, f_MO_divides_17, f_MO_divides_12]
  exact Post_div h _ _
theorem spc_28 (hfn : f_CO_fn σ = 28) : f_PR_performOp0 σ = f_AR_multiplyOrDivide σ 28 := by
  unfold f_PR_performOp0
  simp (decide := true) only [hfn, reduceIte]
  rw [i_PR_performOp0_c3]
  unfold f_AR_performOp0
  simp (decide := true) only [hfn, reduceIte]
  rw [i_AR_performOp0_c4]
theorem spm_28 (τ : MS) (i s t : Int32) (hfm : i &&& (63 : Int32) = 28) : f_MO_special τ i s t = f_MO_sums τ 28 ((i >>> ((11 : Int32) &&& 31)) &&& (31 : Int32)) s t := by
  unfold f_MO_special
  simp (decide := true) only [hfm, reduceIte]
  rw [i_MO_special_c1]
theorem sp_28 (h : R1 σ τ) (hn : m_slot τ = false → m_next τ = m_pc τ + 4) (hfn : f_CO_fn σ = 28) : Post (f_PR_performOp0 σ) (f_MO_special τ (x_instr σ) (f_CO_s σ) (f_CO_t σ)) := by
  have hfm : x_instr σ &&& (63 : Int32) = 28 := hfn
  have hrd := rdok σ
  rw [spc_28 hfn, spm_28 τ _ _ _ hfm, e_rd]
  unfold f_AR_multiplyOrDivide f_MO_sums
  simp (decide := true) only [f_MO_within, zb, reduceIte, i_AR_multiplyOrDivide_c4, i_AR_multiplyOrDivide_c3, i_AR_multiplyOrDivide_c2, i_AR_multiplyOrDivide_c1, i_MO_sums_c6, i_MO_sums_c5, f_MO_sums_35, i_MO_sums_c4, f_MO_sums_97, f_MO_sums_78, i_MO_sums_c3, f_MO_sums_210, f_MO_sums_209, f_MO_sums_205, f_MO_sums_179, i_MO_sums_c2, f_MO_sums_161, i_MO_sums_c1, f_MO_sums_21]
  exact Post_raise h (by decide)
theorem spc_29 (hfn : f_CO_fn σ = 29) : f_PR_performOp0 σ = f_AR_multiplyOrDivide σ 29 := by
  unfold f_PR_performOp0
  simp (decide := true) only [hfn, reduceIte]
  rw [i_PR_performOp0_c3]
  unfold f_AR_performOp0
  simp (decide := true) only [hfn, reduceIte]
  rw [i_AR_performOp0_c4]
theorem spm_29 (τ : MS) (i s t : Int32) (hfm : i &&& (63 : Int32) = 29) : f_MO_special τ i s t = f_MO_sums τ 29 ((i >>> ((11 : Int32) &&& 31)) &&& (31 : Int32)) s t := by
  unfold f_MO_special
  simp (decide := true) only [hfm, reduceIte]
  rw [i_MO_special_c1]
theorem sp_29 (h : R1 σ τ) (hn : m_slot τ = false → m_next τ = m_pc τ + 4) (hfn : f_CO_fn σ = 29) : Post (f_PR_performOp0 σ) (f_MO_special τ (x_instr σ) (f_CO_s σ) (f_CO_t σ)) := by
  have hfm : x_instr σ &&& (63 : Int32) = 29 := hfn
  have hrd := rdok σ
  rw [spc_29 hfn, spm_29 τ _ _ _ hfm, e_rd]
  unfold f_AR_multiplyOrDivide f_MO_sums
  simp (decide := true) only [f_MO_within, zb, reduceIte, i_AR_multiplyOrDivide_c4, i_AR_multiplyOrDivide_c3, i_AR_multiplyOrDivide_c2, i_AR_multiplyOrDivide_c1, i_MO_sums_c6, i_MO_sums_c5, f_MO_sums_35, i_MO_sums_c4, f_MO_sums_97, f_MO_sums_78, i_MO_sums_c3, f_MO_sums_210, f_MO_sums_209, f_MO_sums_205, f_MO_sums_179, i_MO_sums_c2, f_MO_sums_161, i_MO_sums_c1, f_MO_sums_21]
  exact Post_raise h (by decide)
theorem spc_30 (hfn : f_CO_fn σ = 30) : f_PR_performOp0 σ = f_AR_multiplyOrDivide σ 30 := by
  unfold f_PR_performOp0
  simp (decide := true) only [hfn, reduceIte]
  rw [i_PR_performOp0_c3]
  unfold f_AR_performOp0
  simp (decide := true) only [hfn, reduceIte]
  rw [i_AR_performOp0_c4]
theorem spm_30 (τ : MS) (i s t : Int32) (hfm : i &&& (63 : Int32) = 30) : f_MO_special τ i s t = f_MO_sums τ 30 ((i >>> ((11 : Int32) &&& 31)) &&& (31 : Int32)) s t := by
  unfold f_MO_special
  simp (decide := true) only [hfm, reduceIte]
  rw [i_MO_special_c1]
theorem sp_30 (h : R1 σ τ) (hn : m_slot τ = false → m_next τ = m_pc τ + 4) (hfn : f_CO_fn σ = 30) : Post (f_PR_performOp0 σ) (f_MO_special τ (x_instr σ) (f_CO_s σ) (f_CO_t σ)) := by
  have hfm : x_instr σ &&& (63 : Int32) = 30 := hfn
  have hrd := rdok σ
  rw [spc_30 hfn, spm_30 τ _ _ _ hfm, e_rd]
  unfold f_AR_multiplyOrDivide f_MO_sums
  simp (decide := true) only [f_MO_within, zb, reduceIte, i_AR_multiplyOrDivide_c4, i_AR_multiplyOrDivide_c3, i_AR_multiplyOrDivide_c2, i_AR_multiplyOrDivide_c1, i_MO_sums_c6, i_MO_sums_c5, f_MO_sums_35, i_MO_sums_c4, f_MO_sums_97, f_MO_sums_78, i_MO_sums_c3, f_MO_sums_210, f_MO_sums_209, f_MO_sums_205, f_MO_sums_179, i_MO_sums_c2, f_MO_sums_161, i_MO_sums_c1, f_MO_sums_21]
  exact Post_raise h (by decide)
theorem spc_31 (hfn : f_CO_fn σ = 31) : f_PR_performOp0 σ = f_AR_multiplyOrDivide σ 31 := by
  unfold f_PR_performOp0
  simp (decide := true) only [hfn, reduceIte]
  rw [i_PR_performOp0_c3]
  unfold f_AR_performOp0
  simp (decide := true) only [hfn, reduceIte]
  rw [i_AR_performOp0_c4]
theorem spm_31 (τ : MS) (i s t : Int32) (hfm : i &&& (63 : Int32) = 31) : f_MO_special τ i s t = f_MO_sums τ 31 ((i >>> ((11 : Int32) &&& 31)) &&& (31 : Int32)) s t := by
  unfold f_MO_special
  simp (decide := true) only [hfm, reduceIte]
  rw [i_MO_special_c1]
theorem sp_31 (h : R1 σ τ) (hn : m_slot τ = false → m_next τ = m_pc τ + 4) (hfn : f_CO_fn σ = 31) : Post (f_PR_performOp0 σ) (f_MO_special τ (x_instr σ) (f_CO_s σ) (f_CO_t σ)) := by
  have hfm : x_instr σ &&& (63 : Int32) = 31 := hfn
  have hrd := rdok σ
  rw [spc_31 hfn, spm_31 τ _ _ _ hfm, e_rd]
  unfold f_AR_multiplyOrDivide f_MO_sums
  simp (decide := true) only [f_MO_within, zb, reduceIte, i_AR_multiplyOrDivide_c4, i_AR_multiplyOrDivide_c3, i_AR_multiplyOrDivide_c2, i_AR_multiplyOrDivide_c1, i_MO_sums_c6, i_MO_sums_c5, f_MO_sums_35, i_MO_sums_c4, f_MO_sums_97, f_MO_sums_78, i_MO_sums_c3, f_MO_sums_210, f_MO_sums_209, f_MO_sums_205, f_MO_sums_179, i_MO_sums_c2, f_MO_sums_161, i_MO_sums_c1, f_MO_sums_21]
  exact Post_raise h (by decide)
theorem spc_32 (hfn : f_CO_fn σ = 32) : f_PR_performOp0 σ = f_AR_addOrCombine σ 32 := by
  unfold f_PR_performOp0
  simp (decide := true) only [hfn, reduceIte]
  rw [i_PR_performOp0_c3]
  unfold f_AR_performOp0
  simp (decide := true) only [hfn, reduceIte]
  rw [i_AR_performOp0_c5]
theorem spm_32 (τ : MS) (i s t : Int32) (hfm : i &&& (63 : Int32) = 32) : f_MO_special τ i s t = f_MO_sums τ 32 ((i >>> ((11 : Int32) &&& 31)) &&& (31 : Int32)) s t := by
  unfold f_MO_special
  simp (decide := true) only [hfm, reduceIte]
  rw [i_MO_special_c1]
theorem sp_32 (h : R1 σ τ) (hn : m_slot τ = false → m_next τ = m_pc τ + 4) (hfn : f_CO_fn σ = 32) : Post (f_PR_performOp0 σ) (f_MO_special τ (x_instr σ) (f_CO_s σ) (f_CO_t σ)) := by
  have hfm : x_instr σ &&& (63 : Int32) = 32 := hfn
  have hrd := rdok σ
  rw [spc_32 hfn, spm_32 τ _ _ _ hfm, e_rd]
  unfold f_AR_addOrCombine f_MO_sums
  simp (decide := true) only [f_MO_within, zb, reduceIte, i_AR_addOrCombine_c8, i_AR_addOrCombine_c7, i_AR_addOrCombine_c6, i_AR_addOrCombine_c5, i_AR_addOrCombine_c4, i_AR_addOrCombine_c3, i_AR_addOrCombine_c2, i_AR_addOrCombine_c1, i_MO_sums_c6, i_MO_sums_c5, f_MO_sums_35, i_MO_sums_c4, f_MO_sums_97, f_MO_sums_78, i_MO_sums_c3, f_MO_sums_210, f_MO_sums_209, f_MO_sums_205, f_MO_sums_179, i_MO_sums_c2, f_MO_sums_161, i_MO_sums_c1, f_MO_sums_21]
  exact Post_chk h hrd _
theorem spc_33 (hfn : f_CO_fn σ = 33) : f_PR_performOp0 σ = f_AR_addOrCombine σ 33 := by
  unfold f_PR_performOp0
  simp (decide := true) only [hfn, reduceIte]
  rw [i_PR_performOp0_c3]
  unfold f_AR_performOp0
  simp (decide := true) only [hfn, reduceIte]
  rw [i_AR_performOp0_c5]
theorem spm_33 (τ : MS) (i s t : Int32) (hfm : i &&& (63 : Int32) = 33) : f_MO_special τ i s t = f_MO_sums τ 33 ((i >>> ((11 : Int32) &&& 31)) &&& (31 : Int32)) s t := by
  unfold f_MO_special
  simp (decide := true) only [hfm, reduceIte]
  rw [i_MO_special_c1]
theorem sp_33 (h : R1 σ τ) (hn : m_slot τ = false → m_next τ = m_pc τ + 4) (hfn : f_CO_fn σ = 33) : Post (f_PR_performOp0 σ) (f_MO_special τ (x_instr σ) (f_CO_s σ) (f_CO_t σ)) := by
  have hfm : x_instr σ &&& (63 : Int32) = 33 := hfn
  have hrd := rdok σ
  rw [spc_33 hfn, spm_33 τ _ _ _ hfm, e_rd]
  unfold f_AR_addOrCombine f_MO_sums
  simp (decide := true) only [f_MO_within, zb, reduceIte, i_AR_addOrCombine_c8, i_AR_addOrCombine_c7, i_AR_addOrCombine_c6, i_AR_addOrCombine_c5, i_AR_addOrCombine_c4, i_AR_addOrCombine_c3, i_AR_addOrCombine_c2, i_AR_addOrCombine_c1, i_MO_sums_c6, i_MO_sums_c5, f_MO_sums_35, i_MO_sums_c4, f_MO_sums_97, f_MO_sums_78, i_MO_sums_c3, f_MO_sums_210, f_MO_sums_209, f_MO_sums_205, f_MO_sums_179, i_MO_sums_c2, f_MO_sums_161, i_MO_sums_c1, f_MO_sums_21]
  exact Post_put h hrd rfl
theorem spc_34 (hfn : f_CO_fn σ = 34) : f_PR_performOp0 σ = f_AR_addOrCombine σ 34 := by
  unfold f_PR_performOp0
  simp (decide := true) only [hfn, reduceIte]
  rw [i_PR_performOp0_c3]
  unfold f_AR_performOp0
  simp (decide := true) only [hfn, reduceIte]
  rw [i_AR_performOp0_c5]
theorem spm_34 (τ : MS) (i s t : Int32) (hfm : i &&& (63 : Int32) = 34) : f_MO_special τ i s t = f_MO_sums τ 34 ((i >>> ((11 : Int32) &&& 31)) &&& (31 : Int32)) s t := by
  unfold f_MO_special
  simp (decide := true) only [hfm, reduceIte]
  rw [i_MO_special_c1]
theorem sp_34 (h : R1 σ τ) (hn : m_slot τ = false → m_next τ = m_pc τ + 4) (hfn : f_CO_fn σ = 34) : Post (f_PR_performOp0 σ) (f_MO_special τ (x_instr σ) (f_CO_s σ) (f_CO_t σ)) := by
  have hfm : x_instr σ &&& (63 : Int32) = 34 := hfn
  have hrd := rdok σ
  rw [spc_34 hfn, spm_34 τ _ _ _ hfm, e_rd]
  unfold f_AR_addOrCombine f_MO_sums
  simp (decide := true) only [f_MO_within, zb, reduceIte, i_AR_addOrCombine_c8, i_AR_addOrCombine_c7, i_AR_addOrCombine_c6, i_AR_addOrCombine_c5, i_AR_addOrCombine_c4, i_AR_addOrCombine_c3, i_AR_addOrCombine_c2, i_AR_addOrCombine_c1, i_MO_sums_c6, i_MO_sums_c5, f_MO_sums_35, i_MO_sums_c4, f_MO_sums_97, f_MO_sums_78, i_MO_sums_c3, f_MO_sums_210, f_MO_sums_209, f_MO_sums_205, f_MO_sums_179, i_MO_sums_c2, f_MO_sums_161, i_MO_sums_c1, f_MO_sums_21]
  exact Post_chk h hrd _
theorem spc_35 (hfn : f_CO_fn σ = 35) : f_PR_performOp0 σ = f_AR_addOrCombine σ 35 := by
  unfold f_PR_performOp0
  simp (decide := true) only [hfn, reduceIte]
  rw [i_PR_performOp0_c3]
  unfold f_AR_performOp0
  simp (decide := true) only [hfn, reduceIte]
  rw [i_AR_performOp0_c5]
theorem spm_35 (τ : MS) (i s t : Int32) (hfm : i &&& (63 : Int32) = 35) : f_MO_special τ i s t = f_MO_sums τ 35 ((i >>> ((11 : Int32) &&& 31)) &&& (31 : Int32)) s t := by
  unfold f_MO_special
  simp (decide := true) only [hfm, reduceIte]
  rw [i_MO_special_c1]
theorem sp_35 (h : R1 σ τ) (hn : m_slot τ = false → m_next τ = m_pc τ + 4) (hfn : f_CO_fn σ = 35) : Post (f_PR_performOp0 σ) (f_MO_special τ (x_instr σ) (f_CO_s σ) (f_CO_t σ)) := by
  have hfm : x_instr σ &&& (63 : Int32) = 35 := hfn
  have hrd := rdok σ
  rw [spc_35 hfn, spm_35 τ _ _ _ hfm, e_rd]
  unfold f_AR_addOrCombine f_MO_sums
  simp (decide := true) only [f_MO_within, zb, reduceIte, i_AR_addOrCombine_c8, i_AR_addOrCombine_c7, i_AR_addOrCombine_c6, i_AR_addOrCombine_c5, i_AR_addOrCombine_c4, i_AR_addOrCombine_c3, i_AR_addOrCombine_c2, i_AR_addOrCombine_c1, i_MO_sums_c6, i_MO_sums_c5, f_MO_sums_35, i_MO_sums_c4, f_MO_sums_97, f_MO_sums_78, i_MO_sums_c3, f_MO_sums_210, f_MO_sums_209, f_MO_sums_205, f_MO_sums_179, i_MO_sums_c2, f_MO_sums_161, i_MO_sums_c1, f_MO_sums_21]
  exact Post_put h hrd rfl
theorem spc_36 (hfn : f_CO_fn σ = 36) : f_PR_performOp0 σ = f_AR_addOrCombine σ 36 := by
  unfold f_PR_performOp0
  simp (decide := true) only [hfn, reduceIte]
  rw [i_PR_performOp0_c3]
  unfold f_AR_performOp0
  simp (decide := true) only [hfn, reduceIte]
  rw [i_AR_performOp0_c5]
theorem spm_36 (τ : MS) (i s t : Int32) (hfm : i &&& (63 : Int32) = 36) : f_MO_special τ i s t = f_MO_sums τ 36 ((i >>> ((11 : Int32) &&& 31)) &&& (31 : Int32)) s t := by
  unfold f_MO_special
  simp (decide := true) only [hfm, reduceIte]
  rw [i_MO_special_c1]
theorem sp_36 (h : R1 σ τ) (hn : m_slot τ = false → m_next τ = m_pc τ + 4) (hfn : f_CO_fn σ = 36) : Post (f_PR_performOp0 σ) (f_MO_special τ (x_instr σ) (f_CO_s σ) (f_CO_t σ)) := by
  have hfm : x_instr σ &&& (63 : Int32) = 36 := hfn
  have hrd := rdok σ
  rw [spc_36 hfn, spm_36 τ _ _ _ hfm, e_rd]
  unfold f_AR_addOrCombine f_MO_sums
  simp (decide := true) only [f_MO_within, zb, reduceIte, i_AR_addOrCombine_c8, i_AR_addOrCombine_c7, i_AR_addOrCombine_c6, i_AR_addOrCombine_c5, i_AR_addOrCombine_c4, i_AR_addOrCombine_c3, i_AR_addOrCombine_c2, i_AR_addOrCombine_c1, i_MO_sums_c6, i_MO_sums_c5, f_MO_sums_35, i_MO_sums_c4, f_MO_sums_97, f_MO_sums_78, i_MO_sums_c3, f_MO_sums_210, f_MO_sums_209, f_MO_sums_205, f_MO_sums_179, i_MO_sums_c2, f_MO_sums_161, i_MO_sums_c1, f_MO_sums_21]
  exact Post_put h hrd rfl
theorem spc_37 (hfn : f_CO_fn σ = 37) : f_PR_performOp0 σ = f_AR_addOrCombine σ 37 := by
  unfold f_PR_performOp0
  simp (decide := true) only [hfn, reduceIte]
  rw [i_PR_performOp0_c3]
  unfold f_AR_performOp0
  simp (decide := true) only [hfn, reduceIte]
  rw [i_AR_performOp0_c5]
theorem spm_37 (τ : MS) (i s t : Int32) (hfm : i &&& (63 : Int32) = 37) : f_MO_special τ i s t = f_MO_sums τ 37 ((i >>> ((11 : Int32) &&& 31)) &&& (31 : Int32)) s t := by
  unfold f_MO_special
  simp (decide := true) only [hfm, reduceIte]
  rw [i_MO_special_c1]
theorem sp_37 (h : R1 σ τ) (hn : m_slot τ = false → m_next τ = m_pc τ + 4) (hfn : f_CO_fn σ = 37) : Post (f_PR_performOp0 σ) (f_MO_special τ (x_instr σ) (f_CO_s σ) (f_CO_t σ)) := by
  have hfm : x_instr σ &&& (63 : Int32) = 37 := hfn
  have hrd := rdok σ
  rw [spc_37 hfn, spm_37 τ _ _ _ hfm, e_rd]
  unfold f_AR_addOrCombine f_MO_sums
  simp (decide := true) only [f_MO_within, zb, reduceIte, i_AR_addOrCombine_c8, i_AR_addOrCombine_c7, i_AR_addOrCombine_c6, i_AR_addOrCombine_c5, i_AR_addOrCombine_c4, i_AR_addOrCombine_c3, i_AR_addOrCombine_c2, i_AR_addOrCombine_c1, i_MO_sums_c6, i_MO_sums_c5, f_MO_sums_35, i_MO_sums_c4, f_MO_sums_97, f_MO_sums_78, i_MO_sums_c3, f_MO_sums_210, f_MO_sums_209, f_MO_sums_205, f_MO_sums_179, i_MO_sums_c2, f_MO_sums_161, i_MO_sums_c1, f_MO_sums_21]
  exact Post_put h hrd rfl
theorem spc_38 (hfn : f_CO_fn σ = 38) : f_PR_performOp0 σ = f_AR_addOrCombine σ 38 := by
  unfold f_PR_performOp0
  simp (decide := true) only [hfn, reduceIte]
  rw [i_PR_performOp0_c3]
  unfold f_AR_performOp0
  simp (decide := true) only [hfn, reduceIte]
  rw [i_AR_performOp0_c5]
theorem spm_38 (τ : MS) (i s t : Int32) (hfm : i &&& (63 : Int32) = 38) : f_MO_special τ i s t = f_MO_sums τ 38 ((i >>> ((11 : Int32) &&& 31)) &&& (31 : Int32)) s t := by
  unfold f_MO_special
  simp (decide := true) only [hfm, reduceIte]
  rw [i_MO_special_c1]
theorem sp_38 (h : R1 σ τ) (hn : m_slot τ = false → m_next τ = m_pc τ + 4) (hfn : f_CO_fn σ = 38) : Post (f_PR_performOp0 σ) (f_MO_special τ (x_instr σ) (f_CO_s σ) (f_CO_t σ)) := by
  have hfm : x_instr σ &&& (63 : Int32) = 38 := hfn
  have hrd := rdok σ
  rw [spc_38 hfn, spm_38 τ _ _ _ hfm, e_rd]
  unfold f_AR_addOrCombine f_MO_sums
  simp (decide := true) only [f_MO_within, zb, reduceIte, i_AR_addOrCombine_c8, i_AR_addOrCombine_c7, i_AR_addOrCombine_c6, i_AR_addOrCombine_c5, i_AR_addOrCombine_c4, i_AR_addOrCombine_c3, i_AR_addOrCombine_c2, i_AR_addOrCombine_c1, i_MO_sums_c6, i_MO_sums_c5, f_MO_sums_35, i_MO_sums_c4, f_MO_sums_97, f_MO_sums_78, i_MO_sums_c3, f_MO_sums_210, f_MO_sums_209, f_MO_sums_205, f_MO_sums_179, i_MO_sums_c2, f_MO_sums_161, i_MO_sums_c1, f_MO_sums_21]
  exact Post_put h hrd rfl
theorem spc_39 (hfn : f_CO_fn σ = 39) : f_PR_performOp0 σ = f_AR_addOrCombine σ 39 := by
  unfold f_PR_performOp0
  simp (decide := true) only [hfn, reduceIte]
  rw [i_PR_performOp0_c3]
  unfold f_AR_performOp0
  simp (decide := true) only [hfn, reduceIte]
  rw [i_AR_performOp0_c5]
theorem spm_39 (τ : MS) (i s t : Int32) (hfm : i &&& (63 : Int32) = 39) : f_MO_special τ i s t = f_MO_sums τ 39 ((i >>> ((11 : Int32) &&& 31)) &&& (31 : Int32)) s t := by
  unfold f_MO_special
  simp (decide := true) only [hfm, reduceIte]
  rw [i_MO_special_c1]
theorem sp_39 (h : R1 σ τ) (hn : m_slot τ = false → m_next τ = m_pc τ + 4) (hfn : f_CO_fn σ = 39) : Post (f_PR_performOp0 σ) (f_MO_special τ (x_instr σ) (f_CO_s σ) (f_CO_t σ)) := by
  have hfm : x_instr σ &&& (63 : Int32) = 39 := hfn
  have hrd := rdok σ
  rw [spc_39 hfn, spm_39 τ _ _ _ hfm, e_rd]
  unfold f_AR_addOrCombine f_MO_sums
  simp (decide := true) only [f_MO_within, zb, reduceIte, i_AR_addOrCombine_c8, i_AR_addOrCombine_c7, i_AR_addOrCombine_c6, i_AR_addOrCombine_c5, i_AR_addOrCombine_c4, i_AR_addOrCombine_c3, i_AR_addOrCombine_c2, i_AR_addOrCombine_c1, i_MO_sums_c6, i_MO_sums_c5, f_MO_sums_35, i_MO_sums_c4, f_MO_sums_97, f_MO_sums_78, i_MO_sums_c3, f_MO_sums_210, f_MO_sums_209, f_MO_sums_205, f_MO_sums_179, i_MO_sums_c2, f_MO_sums_161, i_MO_sums_c1, f_MO_sums_21]
  exact Post_put h hrd rfl
theorem spc_40 (hfn : f_CO_fn σ = 40) : f_PR_performOp0 σ = f_AR_compare σ 40 := by
  unfold f_PR_performOp0
  simp (decide := true) only [hfn, reduceIte]
  rw [i_PR_performOp0_c3]
  unfold f_AR_performOp0
  simp (decide := true) only [hfn, reduceIte]
  rw [i_AR_performOp0_c6]
theorem spm_40 (τ : MS) (i s t : Int32) (hfm : i &&& (63 : Int32) = 40) : f_MO_special τ i s t = f_MO_sums τ 40 ((i >>> ((11 : Int32) &&& 31)) &&& (31 : Int32)) s t := by
  unfold f_MO_special
  simp (decide := true) only [hfm, reduceIte]
  rw [i_MO_special_c1]
theorem sp_40 (h : R1 σ τ) (hn : m_slot τ = false → m_next τ = m_pc τ + 4) (hfn : f_CO_fn σ = 40) : Post (f_PR_performOp0 σ) (f_MO_special τ (x_instr σ) (f_CO_s σ) (f_CO_t σ)) := by
  have hfm : x_instr σ &&& (63 : Int32) = 40 := hfn
  have hrd := rdok σ
  rw [spc_40 hfn, spm_40 τ _ _ _ hfm, e_rd]
  unfold f_AR_compare f_MO_sums
  simp (decide := true) only [f_MO_within, zb, reduceIte, i_AR_compare_c2, f_AR_compare_65, i_AR_compare_c1, f_AR_compare_93, i_MO_sums_c6, i_MO_sums_c5, f_MO_sums_35, i_MO_sums_c4, f_MO_sums_97, f_MO_sums_78, i_MO_sums_c3, f_MO_sums_210, f_MO_sums_209, f_MO_sums_205, f_MO_sums_179, i_MO_sums_c2, f_MO_sums_161, i_MO_sums_c1, f_MO_sums_21]
  exact Post_raise h (by decide)
theorem spc_41 (hfn : f_CO_fn σ = 41) : f_PR_performOp0 σ = f_AR_compare σ 41 := by
  unfold f_PR_performOp0
  simp (decide := true) only [hfn, reduceIte]
  rw [i_PR_performOp0_c3]
  unfold f_AR_performOp0
  simp (decide := true) only [hfn, reduceIte]
  rw [i_AR_performOp0_c6]
theorem spm_41 (τ : MS) (i s t : Int32) (hfm : i &&& (63 : Int32) = 41) : f_MO_special τ i s t = f_MO_sums τ 41 ((i >>> ((11 : Int32) &&& 31)) &&& (31 : Int32)) s t := by
  unfold f_MO_special
  simp (decide := true) only [hfm, reduceIte]
  rw [i_MO_special_c1]
theorem sp_41 (h : R1 σ τ) (hn : m_slot τ = false → m_next τ = m_pc τ + 4) (hfn : f_CO_fn σ = 41) : Post (f_PR_performOp0 σ) (f_MO_special τ (x_instr σ) (f_CO_s σ) (f_CO_t σ)) := by
  have hfm : x_instr σ &&& (63 : Int32) = 41 := hfn
  have hrd := rdok σ
  rw [spc_41 hfn, spm_41 τ _ _ _ hfm, e_rd]
  unfold f_AR_compare f_MO_sums
  simp (decide := true) only [f_MO_within, zb, reduceIte, i_AR_compare_c2, f_AR_compare_65, i_AR_compare_c1, f_AR_compare_93, i_MO_sums_c6, i_MO_sums_c5, f_MO_sums_35, i_MO_sums_c4, f_MO_sums_97, f_MO_sums_78, i_MO_sums_c3, f_MO_sums_210, f_MO_sums_209, f_MO_sums_205, f_MO_sums_179, i_MO_sums_c2, f_MO_sums_161, i_MO_sums_c1, f_MO_sums_21]
  exact Post_raise h (by decide)
theorem spc_42 (hfn : f_CO_fn σ = 42) : f_PR_performOp0 σ = f_AR_compare σ 42 := by
  unfold f_PR_performOp0
  simp (decide := true) only [hfn, reduceIte]
  rw [i_PR_performOp0_c3]
  unfold f_AR_performOp0
  simp (decide := true) only [hfn, reduceIte]
  rw [i_AR_performOp0_c6]
theorem spm_42 (τ : MS) (i s t : Int32) (hfm : i &&& (63 : Int32) = 42) : f_MO_special τ i s t = f_MO_sums τ 42 ((i >>> ((11 : Int32) &&& 31)) &&& (31 : Int32)) s t := by
  unfold f_MO_special
  simp (decide := true) only [hfm, reduceIte]
  rw [i_MO_special_c1]
theorem sp_42 (h : R1 σ τ) (hn : m_slot τ = false → m_next τ = m_pc τ + 4) (hfn : f_CO_fn σ = 42) : Post (f_PR_performOp0 σ) (f_MO_special τ (x_instr σ) (f_CO_s σ) (f_CO_t σ)) := by
  have hfm : x_instr σ &&& (63 : Int32) = 42 := hfn
  have hrd := rdok σ
  rw [spc_42 hfn, spm_42 τ _ _ _ hfm, e_rd]
  unfold f_AR_compare f_MO_sums
  simp (decide := true) only [f_MO_within, zb, reduceIte, i_AR_compare_c2, f_AR_compare_65, i_AR_compare_c1, f_AR_compare_93, i_MO_sums_c6, i_MO_sums_c5, f_MO_sums_35, i_MO_sums_c4, f_MO_sums_97, f_MO_sums_78, i_MO_sums_c3, f_MO_sums_210, f_MO_sums_209, f_MO_sums_205, f_MO_sums_179, i_MO_sums_c2, f_MO_sums_161, i_MO_sums_c1, f_MO_sums_21]
  by_cases e : f_CO_t σ ≤ f_CO_s σ
  · simp only [if_pos e]
    exact Post_put h hrd rfl
  · simp only [if_neg e]
    exact Post_put h hrd rfl
theorem spc_43 (hfn : f_CO_fn σ = 43) : f_PR_performOp0 σ = f_AR_compare σ 43 := by
  unfold f_PR_performOp0
  simp (decide := true) only [hfn, reduceIte]
  rw [i_PR_performOp0_c3]
  unfold f_AR_performOp0
  simp (decide := true) only [hfn, reduceIte]
  rw [i_AR_performOp0_c6]
theorem spm_43 (τ : MS) (i s t : Int32) (hfm : i &&& (63 : Int32) = 43) : f_MO_special τ i s t = f_MO_sums τ 43 ((i >>> ((11 : Int32) &&& 31)) &&& (31 : Int32)) s t := by
  unfold f_MO_special
  simp (decide := true) only [hfm, reduceIte]
  rw [i_MO_special_c1]
theorem sp_43 (h : R1 σ τ) (hn : m_slot τ = false → m_next τ = m_pc τ + 4) (hfn : f_CO_fn σ = 43) : Post (f_PR_performOp0 σ) (f_MO_special τ (x_instr σ) (f_CO_s σ) (f_CO_t σ)) := by
  have hfm : x_instr σ &&& (63 : Int32) = 43 := hfn
  have hrd := rdok σ
  rw [spc_43 hfn, spm_43 τ _ _ _ hfm, e_rd]
  unfold f_AR_compare f_MO_sums
  simp (decide := true) only [f_MO_within, zb, reduceIte, i_AR_compare_c2, f_AR_compare_65, i_AR_compare_c1, f_AR_compare_93, i_MO_sums_c6, i_MO_sums_c5, f_MO_sums_35, i_MO_sums_c4, f_MO_sums_97, f_MO_sums_78, i_MO_sums_c3, f_MO_sums_210, f_MO_sums_209, f_MO_sums_205, f_MO_sums_179, i_MO_sums_c2, f_MO_sums_161, i_MO_sums_c1, f_MO_sums_21]
  have hb : f_AR_plainlyBelow σ (f_CO_s σ) (f_CO_t σ) = f_MO_isBelow τ (f_CO_s σ) (f_CO_t σ) := rfl
  rw [hb]
  cases f_MO_isBelow τ (f_CO_s σ) (f_CO_t σ)
  · exact Post_put h hrd rfl
  · exact Post_put h hrd rfl
theorem spc_44 (hfn : f_CO_fn σ = 44) : f_PR_performOp0 σ = f_AR_compare σ 44 := by
  unfold f_PR_performOp0
  simp (decide := true) only [hfn, reduceIte]
  rw [i_PR_performOp0_c3]
  unfold f_AR_performOp0
  simp (decide := true) only [hfn, reduceIte]
  rw [i_AR_performOp0_c6]
theorem spm_44 (τ : MS) (i s t : Int32) (hfm : i &&& (63 : Int32) = 44) : f_MO_special τ i s t = f_MO_sums τ 44 ((i >>> ((11 : Int32) &&& 31)) &&& (31 : Int32)) s t := by
  unfold f_MO_special
  simp (decide := true) only [hfm, reduceIte]
  rw [i_MO_special_c1]
theorem sp_44 (h : R1 σ τ) (hn : m_slot τ = false → m_next τ = m_pc τ + 4) (hfn : f_CO_fn σ = 44) : Post (f_PR_performOp0 σ) (f_MO_special τ (x_instr σ) (f_CO_s σ) (f_CO_t σ)) := by
  have hfm : x_instr σ &&& (63 : Int32) = 44 := hfn
  have hrd := rdok σ
  rw [spc_44 hfn, spm_44 τ _ _ _ hfm, e_rd]
  unfold f_AR_compare f_MO_sums
  simp (decide := true) only [f_MO_within, zb, reduceIte, i_AR_compare_c2, f_AR_compare_65, i_AR_compare_c1, f_AR_compare_93, i_MO_sums_c6, i_MO_sums_c5, f_MO_sums_35, i_MO_sums_c4, f_MO_sums_97, f_MO_sums_78, i_MO_sums_c3, f_MO_sums_210, f_MO_sums_209, f_MO_sums_205, f_MO_sums_179, i_MO_sums_c2, f_MO_sums_161, i_MO_sums_c1, f_MO_sums_21]
  exact Post_raise h (by decide)
theorem spc_45 (hfn : f_CO_fn σ = 45) : f_PR_performOp0 σ = f_AR_compare σ 45 := by
  unfold f_PR_performOp0
  simp (decide := true) only [hfn, reduceIte]
  rw [i_PR_performOp0_c3]
  unfold f_AR_performOp0
  simp (decide := true) only [hfn, reduceIte]
  rw [i_AR_performOp0_c6]
theorem spm_45 (τ : MS) (i s t : Int32) (hfm : i &&& (63 : Int32) = 45) : f_MO_special τ i s t = f_MO_sums τ 45 ((i >>> ((11 : Int32) &&& 31)) &&& (31 : Int32)) s t := by
  unfold f_MO_special
  simp (decide := true) only [hfm, reduceIte]
  rw [i_MO_special_c1]
theorem sp_45 (h : R1 σ τ) (hn : m_slot τ = false → m_next τ = m_pc τ + 4) (hfn : f_CO_fn σ = 45) : Post (f_PR_performOp0 σ) (f_MO_special τ (x_instr σ) (f_CO_s σ) (f_CO_t σ)) := by
  have hfm : x_instr σ &&& (63 : Int32) = 45 := hfn
  have hrd := rdok σ
  rw [spc_45 hfn, spm_45 τ _ _ _ hfm, e_rd]
  unfold f_AR_compare f_MO_sums
  simp (decide := true) only [f_MO_within, zb, reduceIte, i_AR_compare_c2, f_AR_compare_65, i_AR_compare_c1, f_AR_compare_93, i_MO_sums_c6, i_MO_sums_c5, f_MO_sums_35, i_MO_sums_c4, f_MO_sums_97, f_MO_sums_78, i_MO_sums_c3, f_MO_sums_210, f_MO_sums_209, f_MO_sums_205, f_MO_sums_179, i_MO_sums_c2, f_MO_sums_161, i_MO_sums_c1, f_MO_sums_21]
  exact Post_raise h (by decide)
theorem spc_46 (hfn : f_CO_fn σ = 46) : f_PR_performOp0 σ = f_AR_compare σ 46 := by
  unfold f_PR_performOp0
  simp (decide := true) only [hfn, reduceIte]
  rw [i_PR_performOp0_c3]
  unfold f_AR_performOp0
  simp (decide := true) only [hfn, reduceIte]
  rw [i_AR_performOp0_c6]
theorem spm_46 (τ : MS) (i s t : Int32) (hfm : i &&& (63 : Int32) = 46) : f_MO_special τ i s t = f_MO_sums τ 46 ((i >>> ((11 : Int32) &&& 31)) &&& (31 : Int32)) s t := by
  unfold f_MO_special
  simp (decide := true) only [hfm, reduceIte]
  rw [i_MO_special_c1]
theorem sp_46 (h : R1 σ τ) (hn : m_slot τ = false → m_next τ = m_pc τ + 4) (hfn : f_CO_fn σ = 46) : Post (f_PR_performOp0 σ) (f_MO_special τ (x_instr σ) (f_CO_s σ) (f_CO_t σ)) := by
  have hfm : x_instr σ &&& (63 : Int32) = 46 := hfn
  have hrd := rdok σ
  rw [spc_46 hfn, spm_46 τ _ _ _ hfm, e_rd]
  unfold f_AR_compare f_MO_sums
  simp (decide := true) only [f_MO_within, zb, reduceIte, i_AR_compare_c2, f_AR_compare_65, i_AR_compare_c1, f_AR_compare_93, i_MO_sums_c6, i_MO_sums_c5, f_MO_sums_35, i_MO_sums_c4, f_MO_sums_97, f_MO_sums_78, i_MO_sums_c3, f_MO_sums_210, f_MO_sums_209, f_MO_sums_205, f_MO_sums_179, i_MO_sums_c2, f_MO_sums_161, i_MO_sums_c1, f_MO_sums_21]
  exact Post_raise h (by decide)
theorem spc_47 (hfn : f_CO_fn σ = 47) : f_PR_performOp0 σ = f_AR_compare σ 47 := by
  unfold f_PR_performOp0
  simp (decide := true) only [hfn, reduceIte]
  rw [i_PR_performOp0_c3]
  unfold f_AR_performOp0
  simp (decide := true) only [hfn, reduceIte]
  rw [i_AR_performOp0_c6]
theorem spm_47 (τ : MS) (i s t : Int32) (hfm : i &&& (63 : Int32) = 47) : f_MO_special τ i s t = f_MO_sums τ 47 ((i >>> ((11 : Int32) &&& 31)) &&& (31 : Int32)) s t := by
  unfold f_MO_special
  simp (decide := true) only [hfm, reduceIte]
  rw [i_MO_special_c1]
theorem sp_47 (h : R1 σ τ) (hn : m_slot τ = false → m_next τ = m_pc τ + 4) (hfn : f_CO_fn σ = 47) : Post (f_PR_performOp0 σ) (f_MO_special τ (x_instr σ) (f_CO_s σ) (f_CO_t σ)) := by
  have hfm : x_instr σ &&& (63 : Int32) = 47 := hfn
  have hrd := rdok σ
  rw [spc_47 hfn, spm_47 τ _ _ _ hfm, e_rd]
  unfold f_AR_compare f_MO_sums
  simp (decide := true) only [f_MO_within, zb, reduceIte, i_AR_compare_c2, f_AR_compare_65, i_AR_compare_c1, f_AR_compare_93, i_MO_sums_c6, i_MO_sums_c5, f_MO_sums_35, i_MO_sums_c4, f_MO_sums_97, f_MO_sums_78, i_MO_sums_c3, f_MO_sums_210, f_MO_sums_209, f_MO_sums_205, f_MO_sums_179, i_MO_sums_c2, f_MO_sums_161, i_MO_sums_c1, f_MO_sums_21]
  exact Post_raise h (by decide)
theorem spc_48 (hfn : f_CO_fn σ = 48) : f_PR_performOp0 σ = (σ, f_AR_trap σ 0 (f_CO_t σ)) := by
  unfold f_PR_performOp0
  simp (decide := true) only [hfn, reduceIte]
  rw [i_PR_performOp0_c3]
  unfold f_AR_performOp0
  simp (decide := true) only [hfn, reduceIte]
  rw [show (48 : Int32) &&& 7 = 0 by decide]
theorem spm_48 (τ : MS) (i s t : Int32) (hfm : i &&& (63 : Int32) = 48) : f_MO_special τ i s t = f_MO_trap τ (0) s t := by
  unfold f_MO_special
  simp (decide := true) only [hfm, reduceIte]
  unfold f_MO_special_233
  rw [i_MO_special_c5]
theorem sp_48 (h : R1 σ τ) (hn : m_slot τ = false → m_next τ = m_pc τ + 4) (hfn : f_CO_fn σ = 48) : Post (f_PR_performOp0 σ) (f_MO_special τ (x_instr σ) (f_CO_s σ) (f_CO_t σ)) := by
  have hfm : x_instr σ &&& (63 : Int32) = 48 := hfn
  have hrd := rdok σ
  rw [spc_48 hfn, spm_48 τ _ _ _ hfm]
  have e := (Post_trap h (k := 0) (by decide) (f_CO_t σ)).1
  simp (decide := true) only [reduceIte] at e
  exact e
theorem spc_49 (hfn : f_CO_fn σ = 49) : f_PR_performOp0 σ = (σ, f_AR_trap σ 1 (f_CO_t σ)) := by
  unfold f_PR_performOp0
  simp (decide := true) only [hfn, reduceIte]
  rw [i_PR_performOp0_c3]
  unfold f_AR_performOp0
  simp (decide := true) only [hfn, reduceIte]
  rw [show (49 : Int32) &&& 7 = 1 by decide]
theorem spm_49 (τ : MS) (i s t : Int32) (hfm : i &&& (63 : Int32) = 49) : f_MO_special τ i s t = f_MO_trap τ (1) s t := by
  unfold f_MO_special
  simp (decide := true) only [hfm, reduceIte]
  unfold f_MO_special_233
  rw [i_MO_special_c5]
theorem sp_49 (h : R1 σ τ) (hn : m_slot τ = false → m_next τ = m_pc τ + 4) (hfn : f_CO_fn σ = 49) : Post (f_PR_performOp0 σ) (f_MO_special τ (x_instr σ) (f_CO_s σ) (f_CO_t σ)) := by
  have hfm : x_instr σ &&& (63 : Int32) = 49 := hfn
  have hrd := rdok σ
  rw [spc_49 hfn, spm_49 τ _ _ _ hfm]
  have e := (Post_trap h (k := 1) (by decide) (f_CO_t σ)).1
  simp (decide := true) only [reduceIte] at e
  exact e
theorem spc_50 (hfn : f_CO_fn σ = 50) : f_PR_performOp0 σ = (σ, f_AR_trap σ 2 (f_CO_t σ)) := by
  unfold f_PR_performOp0
  simp (decide := true) only [hfn, reduceIte]
  rw [i_PR_performOp0_c3]
  unfold f_AR_performOp0
  simp (decide := true) only [hfn, reduceIte]
  rw [show (50 : Int32) &&& 7 = 2 by decide]
theorem spm_50 (τ : MS) (i s t : Int32) (hfm : i &&& (63 : Int32) = 50) : f_MO_special τ i s t = f_MO_trap τ (2) s t := by
  unfold f_MO_special
  simp (decide := true) only [hfm, reduceIte]
  unfold f_MO_special_233
  rw [i_MO_special_c5]
theorem sp_50 (h : R1 σ τ) (hn : m_slot τ = false → m_next τ = m_pc τ + 4) (hfn : f_CO_fn σ = 50) : Post (f_PR_performOp0 σ) (f_MO_special τ (x_instr σ) (f_CO_s σ) (f_CO_t σ)) := by
  have hfm : x_instr σ &&& (63 : Int32) = 50 := hfn
  have hrd := rdok σ
  rw [spc_50 hfn, spm_50 τ _ _ _ hfm]
  have e := (Post_trap h (k := 2) (by decide) (f_CO_t σ)).1
  simp (decide := true) only [reduceIte] at e
  exact e
theorem spc_51 (hfn : f_CO_fn σ = 51) : f_PR_performOp0 σ = (σ, f_AR_trap σ 3 (f_CO_t σ)) := by
  unfold f_PR_performOp0
  simp (decide := true) only [hfn, reduceIte]
  rw [i_PR_performOp0_c3]
  unfold f_AR_performOp0
  simp (decide := true) only [hfn, reduceIte]
  rw [show (51 : Int32) &&& 7 = 3 by decide]
theorem spm_51 (τ : MS) (i s t : Int32) (hfm : i &&& (63 : Int32) = 51) : f_MO_special τ i s t = f_MO_trap τ (3) s t := by
  unfold f_MO_special
  simp (decide := true) only [hfm, reduceIte]
  unfold f_MO_special_233
  rw [i_MO_special_c5]
theorem sp_51 (h : R1 σ τ) (hn : m_slot τ = false → m_next τ = m_pc τ + 4) (hfn : f_CO_fn σ = 51) : Post (f_PR_performOp0 σ) (f_MO_special τ (x_instr σ) (f_CO_s σ) (f_CO_t σ)) := by
  have hfm : x_instr σ &&& (63 : Int32) = 51 := hfn
  have hrd := rdok σ
  rw [spc_51 hfn, spm_51 τ _ _ _ hfm]
  have e := (Post_trap h (k := 3) (by decide) (f_CO_t σ)).1
  simp (decide := true) only [reduceIte] at e
  exact e
theorem spc_52 (hfn : f_CO_fn σ = 52) : f_PR_performOp0 σ = (σ, f_AR_trap σ 4 (f_CO_t σ)) := by
  unfold f_PR_performOp0
  simp (decide := true) only [hfn, reduceIte]
  rw [i_PR_performOp0_c3]
  unfold f_AR_performOp0
  simp (decide := true) only [hfn, reduceIte]
  rw [show (52 : Int32) &&& 7 = 4 by decide]
theorem spm_52 (τ : MS) (i s t : Int32) (hfm : i &&& (63 : Int32) = 52) : f_MO_special τ i s t = f_MO_trap τ (4) s t := by
  unfold f_MO_special
  simp (decide := true) only [hfm, reduceIte]
  unfold f_MO_special_233
  rw [i_MO_special_c5]
theorem sp_52 (h : R1 σ τ) (hn : m_slot τ = false → m_next τ = m_pc τ + 4) (hfn : f_CO_fn σ = 52) : Post (f_PR_performOp0 σ) (f_MO_special τ (x_instr σ) (f_CO_s σ) (f_CO_t σ)) := by
  have hfm : x_instr σ &&& (63 : Int32) = 52 := hfn
  have hrd := rdok σ
  rw [spc_52 hfn, spm_52 τ _ _ _ hfm]
  have e := (Post_trap h (k := 4) (by decide) (f_CO_t σ)).1
  simp (decide := true) only [reduceIte] at e
  exact e
theorem spc_53 (hfn : f_CO_fn σ = 53) : f_PR_performOp0 σ = (σ, f_AR_trap σ 5 (f_CO_t σ)) := by
  unfold f_PR_performOp0
  simp (decide := true) only [hfn, reduceIte]
  rw [i_PR_performOp0_c3]
  unfold f_AR_performOp0
  simp (decide := true) only [hfn, reduceIte]
  rw [show (53 : Int32) &&& 7 = 5 by decide]
theorem spm_53 (τ : MS) (i s t : Int32) (hfm : i &&& (63 : Int32) = 53) : f_MO_special τ i s t = f_MO_trap τ (-1) s t := by
  unfold f_MO_special
  simp (decide := true) only [hfm, reduceIte]
  unfold f_MO_special_233
  rw [i_MO_special_c5]
theorem sp_53 (h : R1 σ τ) (hn : m_slot τ = false → m_next τ = m_pc τ + 4) (hfn : f_CO_fn σ = 53) : Post (f_PR_performOp0 σ) (f_MO_special τ (x_instr σ) (f_CO_s σ) (f_CO_t σ)) := by
  have hfm : x_instr σ &&& (63 : Int32) = 53 := hfn
  have hrd := rdok σ
  rw [spc_53 hfn, spm_53 τ _ _ _ hfm]
  have e := (Post_trap h (k := 5) (by decide) (f_CO_t σ)).1
  simp (decide := true) only [reduceIte] at e
  exact e
theorem spc_54 (hfn : f_CO_fn σ = 54) : f_PR_performOp0 σ = (σ, f_AR_trap σ 6 (f_CO_t σ)) := by
  unfold f_PR_performOp0
  simp (decide := true) only [hfn, reduceIte]
  rw [i_PR_performOp0_c3]
  unfold f_AR_performOp0
  simp (decide := true) only [hfn, reduceIte]
  rw [show (54 : Int32) &&& 7 = 6 by decide]
theorem spm_54 (τ : MS) (i s t : Int32) (hfm : i &&& (63 : Int32) = 54) : f_MO_special τ i s t = f_MO_trap τ (6) s t := by
  unfold f_MO_special
  simp (decide := true) only [hfm, reduceIte]
  unfold f_MO_special_233
  rw [i_MO_special_c5]
theorem sp_54 (h : R1 σ τ) (hn : m_slot τ = false → m_next τ = m_pc τ + 4) (hfn : f_CO_fn σ = 54) : Post (f_PR_performOp0 σ) (f_MO_special τ (x_instr σ) (f_CO_s σ) (f_CO_t σ)) := by
  have hfm : x_instr σ &&& (63 : Int32) = 54 := hfn
  have hrd := rdok σ
  rw [spc_54 hfn, spm_54 τ _ _ _ hfm]
  have e := (Post_trap h (k := 6) (by decide) (f_CO_t σ)).1
  simp (decide := true) only [reduceIte] at e
  exact e
theorem spc_55 (hfn : f_CO_fn σ = 55) : f_PR_performOp0 σ = (σ, f_AR_trap σ 7 (f_CO_t σ)) := by
  unfold f_PR_performOp0
  simp (decide := true) only [hfn, reduceIte]
  rw [i_PR_performOp0_c3]
  unfold f_AR_performOp0
  simp (decide := true) only [hfn, reduceIte]
  rw [show (55 : Int32) &&& 7 = 7 by decide]
theorem spm_55 (τ : MS) (i s t : Int32) (hfm : i &&& (63 : Int32) = 55) : f_MO_special τ i s t = f_MO_trap τ (-1) s t := by
  unfold f_MO_special
  simp (decide := true) only [hfm, reduceIte]
  unfold f_MO_special_233
  rw [i_MO_special_c5]
theorem sp_55 (h : R1 σ τ) (hn : m_slot τ = false → m_next τ = m_pc τ + 4) (hfn : f_CO_fn σ = 55) : Post (f_PR_performOp0 σ) (f_MO_special τ (x_instr σ) (f_CO_s σ) (f_CO_t σ)) := by
  have hfm : x_instr σ &&& (63 : Int32) = 55 := hfn
  have hrd := rdok σ
  rw [spc_55 hfn, spm_55 τ _ _ _ hfm]
  have e := (Post_trap h (k := 7) (by decide) (f_CO_t σ)).1
  simp (decide := true) only [reduceIte] at e
  exact e
theorem spc_56 (hfn : f_CO_fn σ = 56) : f_PR_performOp0 σ = (σ, (10 : Int32)) := by
  unfold f_PR_performOp0
  simp (decide := true) only [hfn, reduceIte]
  rw [i_PR_performOp0_c3]
  unfold f_AR_performOp0
  simp (decide := true) only [hfn, reduceIte]
theorem spm_56 (τ : MS) (i s t : Int32) (hfm : i &&& (63 : Int32) = 56) : f_MO_special τ i s t = f_MO_trap τ (-1) s t := by
  unfold f_MO_special
  simp (decide := true) only [hfm, reduceIte]
  unfold f_MO_special_233
  rw [i_MO_special_c5]
theorem sp_56 (h : R1 σ τ) (hn : m_slot τ = false → m_next τ = m_pc τ + 4) (hfn : f_CO_fn σ = 56) : Post (f_PR_performOp0 σ) (f_MO_special τ (x_instr σ) (f_CO_s σ) (f_CO_t σ)) := by
  have hfm : x_instr σ &&& (63 : Int32) = 56 := hfn
  have hrd := rdok σ
  rw [spc_56 hfn, spm_56 τ _ _ _ hfm]
  unfold f_MO_trap
  simp (decide := true) only [reduceIte, i_MO_trap_c2, f_MO_trap_114, i_MO_trap_c1, f_MO_trap_97]
  split
  · exact Post_raise h (by decide)
  · exact Post_raise h (by decide)
theorem spc_57 (hfn : f_CO_fn σ = 57) : f_PR_performOp0 σ = (σ, (10 : Int32)) := by
  unfold f_PR_performOp0
  simp (decide := true) only [hfn, reduceIte]
  rw [i_PR_performOp0_c3]
  unfold f_AR_performOp0
  simp (decide := true) only [hfn, reduceIte]
theorem spm_57 (τ : MS) (i s t : Int32) (hfm : i &&& (63 : Int32) = 57) : f_MO_special τ i s t = f_MO_trap τ (-1) s t := by
  unfold f_MO_special
  simp (decide := true) only [hfm, reduceIte]
  unfold f_MO_special_233
  rw [i_MO_special_c5]
theorem sp_57 (h : R1 σ τ) (hn : m_slot τ = false → m_next τ = m_pc τ + 4) (hfn : f_CO_fn σ = 57) : Post (f_PR_performOp0 σ) (f_MO_special τ (x_instr σ) (f_CO_s σ) (f_CO_t σ)) := by
  have hfm : x_instr σ &&& (63 : Int32) = 57 := hfn
  have hrd := rdok σ
  rw [spc_57 hfn, spm_57 τ _ _ _ hfm]
  unfold f_MO_trap
  simp (decide := true) only [reduceIte, i_MO_trap_c2, f_MO_trap_114, i_MO_trap_c1, f_MO_trap_97]
  split
  · exact Post_raise h (by decide)
  · exact Post_raise h (by decide)
theorem spc_58 (hfn : f_CO_fn σ = 58) : f_PR_performOp0 σ = (σ, (10 : Int32)) := by
  unfold f_PR_performOp0
  simp (decide := true) only [hfn, reduceIte]
  rw [i_PR_performOp0_c3]
  unfold f_AR_performOp0
  simp (decide := true) only [hfn, reduceIte]
theorem spm_58 (τ : MS) (i s t : Int32) (hfm : i &&& (63 : Int32) = 58) : f_MO_special τ i s t = f_MO_trap τ (-1) s t := by
  unfold f_MO_special
  simp (decide := true) only [hfm, reduceIte]
  unfold f_MO_special_233
  rw [i_MO_special_c5]
theorem sp_58 (h : R1 σ τ) (hn : m_slot τ = false → m_next τ = m_pc τ + 4) (hfn : f_CO_fn σ = 58) : Post (f_PR_performOp0 σ) (f_MO_special τ (x_instr σ) (f_CO_s σ) (f_CO_t σ)) := by
  have hfm : x_instr σ &&& (63 : Int32) = 58 := hfn
  have hrd := rdok σ
  rw [spc_58 hfn, spm_58 τ _ _ _ hfm]
  unfold f_MO_trap
  simp (decide := true) only [reduceIte, i_MO_trap_c2, f_MO_trap_114, i_MO_trap_c1, f_MO_trap_97]
  split
  · exact Post_raise h (by decide)
  · exact Post_raise h (by decide)
theorem spc_59 (hfn : f_CO_fn σ = 59) : f_PR_performOp0 σ = (σ, (10 : Int32)) := by
  unfold f_PR_performOp0
  simp (decide := true) only [hfn, reduceIte]
  rw [i_PR_performOp0_c3]
  unfold f_AR_performOp0
  simp (decide := true) only [hfn, reduceIte]
theorem spm_59 (τ : MS) (i s t : Int32) (hfm : i &&& (63 : Int32) = 59) : f_MO_special τ i s t = f_MO_trap τ (-1) s t := by
  unfold f_MO_special
  simp (decide := true) only [hfm, reduceIte]
  unfold f_MO_special_233
  rw [i_MO_special_c5]
theorem sp_59 (h : R1 σ τ) (hn : m_slot τ = false → m_next τ = m_pc τ + 4) (hfn : f_CO_fn σ = 59) : Post (f_PR_performOp0 σ) (f_MO_special τ (x_instr σ) (f_CO_s σ) (f_CO_t σ)) := by
  have hfm : x_instr σ &&& (63 : Int32) = 59 := hfn
  have hrd := rdok σ
  rw [spc_59 hfn, spm_59 τ _ _ _ hfm]
  unfold f_MO_trap
  simp (decide := true) only [reduceIte, i_MO_trap_c2, f_MO_trap_114, i_MO_trap_c1, f_MO_trap_97]
  split
  · exact Post_raise h (by decide)
  · exact Post_raise h (by decide)
theorem spc_60 (hfn : f_CO_fn σ = 60) : f_PR_performOp0 σ = (σ, (10 : Int32)) := by
  unfold f_PR_performOp0
  simp (decide := true) only [hfn, reduceIte]
  rw [i_PR_performOp0_c3]
  unfold f_AR_performOp0
  simp (decide := true) only [hfn, reduceIte]
theorem spm_60 (τ : MS) (i s t : Int32) (hfm : i &&& (63 : Int32) = 60) : f_MO_special τ i s t = f_MO_trap τ (-1) s t := by
  unfold f_MO_special
  simp (decide := true) only [hfm, reduceIte]
  unfold f_MO_special_233
  rw [i_MO_special_c5]
theorem sp_60 (h : R1 σ τ) (hn : m_slot τ = false → m_next τ = m_pc τ + 4) (hfn : f_CO_fn σ = 60) : Post (f_PR_performOp0 σ) (f_MO_special τ (x_instr σ) (f_CO_s σ) (f_CO_t σ)) := by
  have hfm : x_instr σ &&& (63 : Int32) = 60 := hfn
  have hrd := rdok σ
  rw [spc_60 hfn, spm_60 τ _ _ _ hfm]
  unfold f_MO_trap
  simp (decide := true) only [reduceIte, i_MO_trap_c2, f_MO_trap_114, i_MO_trap_c1, f_MO_trap_97]
  split
  · exact Post_raise h (by decide)
  · exact Post_raise h (by decide)
theorem spc_61 (hfn : f_CO_fn σ = 61) : f_PR_performOp0 σ = (σ, (10 : Int32)) := by
  unfold f_PR_performOp0
  simp (decide := true) only [hfn, reduceIte]
  rw [i_PR_performOp0_c3]
  unfold f_AR_performOp0
  simp (decide := true) only [hfn, reduceIte]
theorem spm_61 (τ : MS) (i s t : Int32) (hfm : i &&& (63 : Int32) = 61) : f_MO_special τ i s t = f_MO_trap τ (-1) s t := by
  unfold f_MO_special
  simp (decide := true) only [hfm, reduceIte]
  unfold f_MO_special_233
  rw [i_MO_special_c5]
theorem sp_61 (h : R1 σ τ) (hn : m_slot τ = false → m_next τ = m_pc τ + 4) (hfn : f_CO_fn σ = 61) : Post (f_PR_performOp0 σ) (f_MO_special τ (x_instr σ) (f_CO_s σ) (f_CO_t σ)) := by
  have hfm : x_instr σ &&& (63 : Int32) = 61 := hfn
  have hrd := rdok σ
  rw [spc_61 hfn, spm_61 τ _ _ _ hfm]
  unfold f_MO_trap
  simp (decide := true) only [reduceIte, i_MO_trap_c2, f_MO_trap_114, i_MO_trap_c1, f_MO_trap_97]
  split
  · exact Post_raise h (by decide)
  · exact Post_raise h (by decide)
theorem spc_62 (hfn : f_CO_fn σ = 62) : f_PR_performOp0 σ = (σ, (10 : Int32)) := by
  unfold f_PR_performOp0
  simp (decide := true) only [hfn, reduceIte]
  rw [i_PR_performOp0_c3]
  unfold f_AR_performOp0
  simp (decide := true) only [hfn, reduceIte]
theorem spm_62 (τ : MS) (i s t : Int32) (hfm : i &&& (63 : Int32) = 62) : f_MO_special τ i s t = f_MO_trap τ (-1) s t := by
  unfold f_MO_special
  simp (decide := true) only [hfm, reduceIte]
  unfold f_MO_special_233
  rw [i_MO_special_c5]
theorem sp_62 (h : R1 σ τ) (hn : m_slot τ = false → m_next τ = m_pc τ + 4) (hfn : f_CO_fn σ = 62) : Post (f_PR_performOp0 σ) (f_MO_special τ (x_instr σ) (f_CO_s σ) (f_CO_t σ)) := by
  have hfm : x_instr σ &&& (63 : Int32) = 62 := hfn
  have hrd := rdok σ
  rw [spc_62 hfn, spm_62 τ _ _ _ hfm]
  unfold f_MO_trap
  simp (decide := true) only [reduceIte, i_MO_trap_c2, f_MO_trap_114, i_MO_trap_c1, f_MO_trap_97]
  split
  · exact Post_raise h (by decide)
  · exact Post_raise h (by decide)
theorem spc_63 (hfn : f_CO_fn σ = 63) : f_PR_performOp0 σ = (σ, (10 : Int32)) := by
  unfold f_PR_performOp0
  simp (decide := true) only [hfn, reduceIte]
  rw [i_PR_performOp0_c3]
  unfold f_AR_performOp0
  simp (decide := true) only [hfn, reduceIte]
theorem spm_63 (τ : MS) (i s t : Int32) (hfm : i &&& (63 : Int32) = 63) : f_MO_special τ i s t = f_MO_trap τ (-1) s t := by
  unfold f_MO_special
  simp (decide := true) only [hfm, reduceIte]
  unfold f_MO_special_233
  rw [i_MO_special_c5]
theorem sp_63 (h : R1 σ τ) (hn : m_slot τ = false → m_next τ = m_pc τ + 4) (hfn : f_CO_fn σ = 63) : Post (f_PR_performOp0 σ) (f_MO_special τ (x_instr σ) (f_CO_s σ) (f_CO_t σ)) := by
  have hfm : x_instr σ &&& (63 : Int32) = 63 := hfn
  have hrd := rdok σ
  rw [spc_63 hfn, spm_63 τ _ _ _ hfm]
  unfold f_MO_trap
  simp (decide := true) only [reduceIte, i_MO_trap_c2, f_MO_trap_114, i_MO_trap_c1, f_MO_trap_97]
  split
  · exact Post_raise h (by decide)
  · exact Post_raise h (by decide)
theorem special_ag (h : R1 σ τ) (hn : m_slot τ = false → m_next τ = m_pc τ + 4) : Post (f_PR_performOp0 σ) (f_MO_special τ (x_instr σ) (f_CO_s σ) (f_CO_t σ)) := by
  obtain ⟨k, hk, hf⟩ := fn_ex σ
  revert hf
  exact c64 (P := fun k => f_CO_fn σ = nI k → Post (f_PR_performOp0 σ) (f_MO_special τ (x_instr σ) (f_CO_s σ) (f_CO_t σ))) (fun q => sp_0 h hn q) (fun q => sp_1 h hn q) (fun q => sp_2 h hn q) (fun q => sp_3 h hn q) (fun q => sp_4 h hn q) (fun q => sp_5 h hn q) (fun q => sp_6 h hn q) (fun q => sp_7 h hn q) (fun q => sp_8 h hn q) (fun q => sp_9 h hn q) (fun q => sp_10 h hn q) (fun q => sp_11 h hn q) (fun q => sp_12 h hn q) (fun q => sp_13 h hn q) (fun q => sp_14 h hn q) (fun q => sp_15 h hn q) (fun q => sp_16 h hn q) (fun q => sp_17 h hn q) (fun q => sp_18 h hn q) (fun q => sp_19 h hn q) (fun q => sp_20 h hn q) (fun q => sp_21 h hn q) (fun q => sp_22 h hn q) (fun q => sp_23 h hn q) (fun q => sp_24 h hn q) (fun q => sp_25 h hn q) (fun q => sp_26 h hn q) (fun q => sp_27 h hn q) (fun q => sp_28 h hn q) (fun q => sp_29 h hn q) (fun q => sp_30 h hn q) (fun q => sp_31 h hn q) (fun q => sp_32 h hn q) (fun q => sp_33 h hn q) (fun q => sp_34 h hn q) (fun q => sp_35 h hn q) (fun q => sp_36 h hn q) (fun q => sp_37 h hn q) (fun q => sp_38 h hn q) (fun q => sp_39 h hn q) (fun q => sp_40 h hn q) (fun q => sp_41 h hn q) (fun q => sp_42 h hn q) (fun q => sp_43 h hn q) (fun q => sp_44 h hn q) (fun q => sp_45 h hn q) (fun q => sp_46 h hn q) (fun q => sp_47 h hn q) (fun q => sp_48 h hn q) (fun q => sp_49 h hn q) (fun q => sp_50 h hn q) (fun q => sp_51 h hn q) (fun q => sp_52 h hn q) (fun q => sp_53 h hn q) (fun q => sp_54 h hn q) (fun q => sp_55 h hn q) (fun q => sp_56 h hn q) (fun q => sp_57 h hn q) (fun q => sp_58 h hn q) (fun q => sp_59 h hn q) (fun q => sp_60 h hn q) (fun q => sp_61 h hn q) (fun q => sp_62 h hn q) (fun q => sp_63 h hn q) k hk
end SPC
