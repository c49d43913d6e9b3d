section IN2
variable {σ : XS} {τ : MS}
theorem c32 {P : Nat → Prop} (h0 : P 0) (h1 : P 1) (h2 : P 2) (h3 : P 3) (h4 : P 4) (h5 : P 5) (h6 : P 6) (h7 : P 7) (h8 : P 8) (h9 : P 9) (h10 : P 10) (h11 : P 11) (h12 : P 12) (h13 : P 13) (h14 : P 14) (h15 : P 15) (h16 : P 16) (h17 : P 17) (h18 : P 18) (h19 : P 19) (h20 : P 20) (h21 : P 21) (h22 : P 22) (h23 : P 23) (h24 : P 24) (h25 : P 25) (h26 : P 26) (h27 : P 27) (h28 : P 28) (h29 : P 29) (h30 : P 30) (h31 : P 31) : ∀ i, i < 32 → P i := b_all h0 h1 h2 h3 h4 h5 h6 h7 h8 h9 h10 h11 h12 h13 h14 h15 h16 h17 h18 h19 h20 h21 h22 h23 h24 h25 h26 h27 h28 h29 h30 h31
theorem Post_br (h : R1 σ τ) (hn : m_next τ = m_pc τ + 4) (g l : Bool) {v : Int32} (hv : v = ((m_pc τ) + (4 : Int32)) + ((4 : Int32) * (f_CO_signedImmediate σ))) : Post (f_BR_branch σ g l, -1) (f_MO_branch τ g v l) := Or.inl ⟨rfl, br_ag h hn g l hv⟩
theorem Post_brl (h : R1 σ τ) (hn : m_next τ = m_pc τ + 4) (g l : Bool) {v : Int32} (hv : v = ((m_pc τ) + (4 : Int32)) + ((4 : Int32) * (f_CO_signedImmediate σ))) {x : Int32} (hx : x = m_pc τ + 8) : Post (f_CO_put (f_BR_branch σ g l) 31 x) (f_MO_branch (f_MO_put τ 31 (m_pc τ + 8)) g v l) := by
  subst hx
  have hp := R1_put h (a := 31) (m_pc τ + 8) (by decide)
  have hm := put_m τ 31 (m_pc τ + 8)
  rw [put_br]
  refine Or.inl ⟨rfl, br_ag hp.1 (by rw [hm.1, hm.2.1, hn]) g l ?_⟩
  have e : f_CO_signedImmediate (f_CO_put σ 31 (m_pc τ + 8)).1 = f_CO_signedImmediate σ := by
    unfold f_CO_signedImmediate
    rw [hp.2.2.1]
  rw [e, hm.1]
  exact hv
theorem br_pc (σ : XS) (g l : Bool) : x_pc (f_BR_branch σ g l) = x_pc σ := by
  rw [bx_eq]
  cases g <;> cases l <;> rfl
theorem br1_0 (h : R1 σ τ) (hn : m_slot τ = false → m_next τ = m_pc τ + 4) (hrt : f_CO_rt σ = 0) : Post (f_PR_performOp1 σ) (f_MO_byRegister τ 0 (f_CO_s σ) (f_CO_signedImmediate σ)) := by
  unfold f_PR_performOp1 f_MO_byRegister
  simp (decide := true) only [hrt, f_MO_within, reduceIte, f_PR_performOp1_44, i_PR_performOp1_c1]
  unfold f_BR_bySign
  rw [hrt, R_inds h.1]
  cases hs : m_slot τ
  · have hn2 := hn hs
    have hpc := R_pc h.1
    by_cases e : 0 ≤ f_CO_s σ
    · have e2 : ¬ f_CO_s σ < 0 := Int32.not_lt.mpr e
      simp (decide := true) only [if_pos e, if_neg e2, zb, reduceIte, i_BR_bySign_c2, f_BR_bySign_c1, f_BR_bySign_68, f_BR_bySign_57, f_BR_bySign_36, i_MO_byRegister_c4, i_MO_byRegister_c3, f_MO_byRegister_130, f_MO_byRegister_105, f_MO_byRegister_c2, f_MO_byRegister_84, i_MO_byRegister_c1, br_pc, hpc]
      exact Post_br h hn2 _ _ rfl
    · have e2 : f_CO_s σ < 0 := Int32.not_le.mp e
      simp (decide := true) only [if_neg e, if_pos e2, zb, reduceIte, i_BR_bySign_c2, f_BR_bySign_c1, f_BR_bySign_68, f_BR_bySign_57, f_BR_bySign_36, i_MO_byRegister_c4, i_MO_byRegister_c3, f_MO_byRegister_130, f_MO_byRegister_105, f_MO_byRegister_c2, f_MO_byRegister_84, i_MO_byRegister_c1, br_pc, hpc]
      exact Post_br h hn2 _ _ rfl
  · simp (decide := true) only [zb, reduceIte, f_MO_byRegister_47, i_MO_byRegister_c4]
    exact Post_raise h (by decide)
theorem br1_1 (h : R1 σ τ) (hn : m_slot τ = false → m_next τ = m_pc τ + 4) (hrt : f_CO_rt σ = 1) : Post (f_PR_performOp1 σ) (f_MO_byRegister τ 1 (f_CO_s σ) (f_CO_signedImmediate σ)) := by
  unfold f_PR_performOp1 f_MO_byRegister
  simp (decide := true) only [hrt, f_MO_within, reduceIte, f_PR_performOp1_44, i_PR_performOp1_c1]
  unfold f_BR_bySign
  rw [hrt, R_inds h.1]
  cases hs : m_slot τ
  · have hn2 := hn hs
    have hpc := R_pc h.1
    by_cases e : 0 ≤ f_CO_s σ
    · have e2 : ¬ f_CO_s σ < 0 := Int32.not_lt.mpr e
      simp (decide := true) only [if_pos e, if_neg e2, zb, reduceIte, i_BR_bySign_c2, f_BR_bySign_c1, f_BR_bySign_68, f_BR_bySign_57, f_BR_bySign_36, i_MO_byRegister_c4, i_MO_byRegister_c3, f_MO_byRegister_130, f_MO_byRegister_105, f_MO_byRegister_c2, f_MO_byRegister_84, i_MO_byRegister_c1, br_pc, hpc]
      exact Post_br h hn2 _ _ rfl
    · have e2 : f_CO_s σ < 0 := Int32.not_le.mp e
      simp (decide := true) only [if_neg e, if_pos e2, zb, reduceIte, i_BR_bySign_c2, f_BR_bySign_c1, f_BR_bySign_68, f_BR_bySign_57, f_BR_bySign_36, i_MO_byRegister_c4, i_MO_byRegister_c3, f_MO_byRegister_130, f_MO_byRegister_105, f_MO_byRegister_c2, f_MO_byRegister_84, i_MO_byRegister_c1, br_pc, hpc]
      exact Post_br h hn2 _ _ rfl
  · simp (decide := true) only [zb, reduceIte, f_MO_byRegister_47, i_MO_byRegister_c4]
    exact Post_raise h (by decide)
theorem br1_2 (h : R1 σ τ) (hn : m_slot τ = false → m_next τ = m_pc τ + 4) (hrt : f_CO_rt σ = 2) : Post (f_PR_performOp1 σ) (f_MO_byRegister τ 2 (f_CO_s σ) (f_CO_signedImmediate σ)) := by
  unfold f_PR_performOp1 f_MO_byRegister
  simp (decide := true) only [hrt, f_MO_within, reduceIte, f_PR_performOp1_44, i_PR_performOp1_c1]
  unfold f_BR_bySign
  rw [hrt, R_inds h.1]
  cases hs : m_slot τ
  · have hn2 := hn hs
    have hpc := R_pc h.1
    by_cases e : 0 ≤ f_CO_s σ
    · have e2 : ¬ f_CO_s σ < 0 := Int32.not_lt.mpr e
      simp (decide := true) only [if_pos e, if_neg e2, zb, reduceIte, i_BR_bySign_c2, f_BR_bySign_c1, f_BR_bySign_68, f_BR_bySign_57, f_BR_bySign_36, i_MO_byRegister_c4, i_MO_byRegister_c3, f_MO_byRegister_130, f_MO_byRegister_105, f_MO_byRegister_c2, f_MO_byRegister_84, i_MO_byRegister_c1, br_pc, hpc]
      exact Post_br h hn2 _ _ rfl
    · have e2 : f_CO_s σ < 0 := Int32.not_le.mp e
      simp (decide := true) only [if_neg e, if_pos e2, zb, reduceIte, i_BR_bySign_c2, f_BR_bySign_c1, f_BR_bySign_68, f_BR_bySign_57, f_BR_bySign_36, i_MO_byRegister_c4, i_MO_byRegister_c3, f_MO_byRegister_130, f_MO_byRegister_105, f_MO_byRegister_c2, f_MO_byRegister_84, i_MO_byRegister_c1, br_pc, hpc]
      exact Post_br h hn2 _ _ rfl
  · simp (decide := true) only [zb, reduceIte, f_MO_byRegister_47, i_MO_byRegister_c4]
    exact Post_raise h (by decide)
theorem br1_3 (h : R1 σ τ) (hn : m_slot τ = false → m_next τ = m_pc τ + 4) (hrt : f_CO_rt σ = 3) : Post (f_PR_performOp1 σ) (f_MO_byRegister τ 3 (f_CO_s σ) (f_CO_signedImmediate σ)) := by
  unfold f_PR_performOp1 f_MO_byRegister
  simp (decide := true) only [hrt, f_MO_within, reduceIte, f_PR_performOp1_44, i_PR_performOp1_c1]
  unfold f_BR_bySign
  rw [hrt, R_inds h.1]
  cases hs : m_slot τ
  · have hn2 := hn hs
    have hpc := R_pc h.1
    by_cases e : 0 ≤ f_CO_s σ
    · have e2 : ¬ f_CO_s σ < 0 := Int32.not_lt.mpr e
      simp (decide := true) only [if_pos e, if_neg e2, zb, reduceIte, i_BR_bySign_c2, f_BR_bySign_c1, f_BR_bySign_68, f_BR_bySign_57, f_BR_bySign_36, i_MO_byRegister_c4, i_MO_byRegister_c3, f_MO_byRegister_130, f_MO_byRegister_105, f_MO_byRegister_c2, f_MO_byRegister_84, i_MO_byRegister_c1, br_pc, hpc]
      exact Post_br h hn2 _ _ rfl
    · have e2 : f_CO_s σ < 0 := Int32.not_le.mp e
      simp (decide := true) only [if_neg e, if_pos e2, zb, reduceIte, i_BR_bySign_c2, f_BR_bySign_c1, f_BR_bySign_68, f_BR_bySign_57, f_BR_bySign_36, i_MO_byRegister_c4, i_MO_byRegister_c3, f_MO_byRegister_130, f_MO_byRegister_105, f_MO_byRegister_c2, f_MO_byRegister_84, i_MO_byRegister_c1, br_pc, hpc]
      exact Post_br h hn2 _ _ rfl
  · simp (decide := true) only [zb, reduceIte, f_MO_byRegister_47, i_MO_byRegister_c4]
    exact Post_raise h (by decide)
theorem br1_4 (h : R1 σ τ) (hn : m_slot τ = false → m_next τ = m_pc τ + 4) (hrt : f_CO_rt σ = 4) : Post (f_PR_performOp1 σ) (f_MO_byRegister τ 4 (f_CO_s σ) (f_CO_signedImmediate σ)) := by
  unfold f_PR_performOp1 f_MO_byRegister
  simp (decide := true) only [hrt, f_MO_within, zb, reduceIte, f_MO_byRegister_47, i_MO_byRegister_c4]
  exact Post_raise h (by decide)
theorem br1_5 (h : R1 σ τ) (hn : m_slot τ = false → m_next τ = m_pc τ + 4) (hrt : f_CO_rt σ = 5) : Post (f_PR_performOp1 σ) (f_MO_byRegister τ 5 (f_CO_s σ) (f_CO_signedImmediate σ)) := by
  unfold f_PR_performOp1 f_MO_byRegister
  simp (decide := true) only [hrt, f_MO_within, zb, reduceIte, f_MO_byRegister_47, i_MO_byRegister_c4]
  exact Post_raise h (by decide)
theorem br1_6 (h : R1 σ τ) (hn : m_slot τ = false → m_next τ = m_pc τ + 4) (hrt : f_CO_rt σ = 6) : Post (f_PR_performOp1 σ) (f_MO_byRegister τ 6 (f_CO_s σ) (f_CO_signedImmediate σ)) := by
  unfold f_PR_performOp1 f_MO_byRegister
  simp (decide := true) only [hrt, f_MO_within, zb, reduceIte, f_MO_byRegister_47, i_MO_byRegister_c4]
  exact Post_raise h (by decide)
theorem br1_7 (h : R1 σ τ) (hn : m_slot τ = false → m_next τ = m_pc τ + 4) (hrt : f_CO_rt σ = 7) : Post (f_PR_performOp1 σ) (f_MO_byRegister τ 7 (f_CO_s σ) (f_CO_signedImmediate σ)) := by
  unfold f_PR_performOp1 f_MO_byRegister
  simp (decide := true) only [hrt, f_MO_within, zb, reduceIte, f_MO_byRegister_47, i_MO_byRegister_c4]
  exact Post_raise h (by decide)
theorem br1_8 (h : R1 σ τ) (hn : m_slot τ = false → m_next τ = m_pc τ + 4) (hrt : f_CO_rt σ = 8) : Post (f_PR_performOp1 σ) (f_MO_byRegister τ 8 (f_CO_s σ) (f_CO_signedImmediate σ)) := by
  unfold f_PR_performOp1 f_MO_byRegister
  simp (decide := true) only [hrt, f_MO_within, zb, reduceIte, f_PR_performOp1_52, f_AR_trapImmediate, i_MO_byRegister_c1]
  rw [show (8 : Int32) &&& 7 = 0 by decide, show (8 : Int32) - 8 = 0 by decide]
  exact (Post_trap h (k := 0) (by decide) (f_CO_signedImmediate σ)).2
theorem br1_9 (h : R1 σ τ) (hn : m_slot τ = false → m_next τ = m_pc τ + 4) (hrt : f_CO_rt σ = 9) : Post (f_PR_performOp1 σ) (f_MO_byRegister τ 9 (f_CO_s σ) (f_CO_signedImmediate σ)) := by
  unfold f_PR_performOp1 f_MO_byRegister
  simp (decide := true) only [hrt, f_MO_within, zb, reduceIte, f_PR_performOp1_52, f_AR_trapImmediate, i_MO_byRegister_c1]
  rw [show (9 : Int32) &&& 7 = 1 by decide, show (9 : Int32) - 8 = 1 by decide]
  exact (Post_trap h (k := 1) (by decide) (f_CO_signedImmediate σ)).2
theorem br1_10 (h : R1 σ τ) (hn : m_slot τ = false → m_next τ = m_pc τ + 4) (hrt : f_CO_rt σ = 10) : Post (f_PR_performOp1 σ) (f_MO_byRegister τ 10 (f_CO_s σ) (f_CO_signedImmediate σ)) := by
  unfold f_PR_performOp1 f_MO_byRegister
  simp (decide := true) only [hrt, f_MO_within, zb, reduceIte, f_PR_performOp1_52, f_AR_trapImmediate, i_MO_byRegister_c1]
  rw [show (10 : Int32) &&& 7 = 2 by decide, show (10 : Int32) - 8 = 2 by decide]
  exact (Post_trap h (k := 2) (by decide) (f_CO_signedImmediate σ)).2
theorem br1_11 (h : R1 σ τ) (hn : m_slot τ = false → m_next τ = m_pc τ + 4) (hrt : f_CO_rt σ = 11) : Post (f_PR_performOp1 σ) (f_MO_byRegister τ 11 (f_CO_s σ) (f_CO_signedImmediate σ)) := by
  unfold f_PR_performOp1 f_MO_byRegister
  simp (decide := true) only [hrt, f_MO_within, zb, reduceIte, f_PR_performOp1_52, f_AR_trapImmediate, i_MO_byRegister_c1]
  rw [show (11 : Int32) &&& 7 = 3 by decide, show (11 : Int32) - 8 = 3 by decide]
  exact (Post_trap h (k := 3) (by decide) (f_CO_signedImmediate σ)).2
theorem br1_12 (h : R1 σ τ) (hn : m_slot τ = false → m_next τ = m_pc τ + 4) (hrt : f_CO_rt σ = 12) : Post (f_PR_performOp1 σ) (f_MO_byRegister τ 12 (f_CO_s σ) (f_CO_signedImmediate σ)) := by
  unfold f_PR_performOp1 f_MO_byRegister
  simp (decide := true) only [hrt, f_MO_within, zb, reduceIte, f_PR_performOp1_52, f_AR_trapImmediate, i_MO_byRegister_c1]
  rw [show (12 : Int32) &&& 7 = 4 by decide, show (12 : Int32) - 8 = 4 by decide]
  exact (Post_trap h (k := 4) (by decide) (f_CO_signedImmediate σ)).2
theorem br1_13 (h : R1 σ τ) (hn : m_slot τ = false → m_next τ = m_pc τ + 4) (hrt : f_CO_rt σ = 13) : Post (f_PR_performOp1 σ) (f_MO_byRegister τ 13 (f_CO_s σ) (f_CO_signedImmediate σ)) := by
  unfold f_PR_performOp1 f_MO_byRegister
  simp (decide := true) only [hrt, f_MO_within, zb, reduceIte, f_PR_performOp1_52, f_AR_trapImmediate, i_MO_byRegister_c1]
  rw [show (13 : Int32) &&& 7 = 5 by decide, show (13 : Int32) - 8 = 5 by decide]
  exact (Post_trap h (k := 5) (by decide) (f_CO_signedImmediate σ)).2
theorem br1_14 (h : R1 σ τ) (hn : m_slot τ = false → m_next τ = m_pc τ + 4) (hrt : f_CO_rt σ = 14) : Post (f_PR_performOp1 σ) (f_MO_byRegister τ 14 (f_CO_s σ) (f_CO_signedImmediate σ)) := by
  unfold f_PR_performOp1 f_MO_byRegister
  simp (decide := true) only [hrt, f_MO_within, zb, reduceIte, f_PR_performOp1_52, f_AR_trapImmediate, i_MO_byRegister_c1]
  rw [show (14 : Int32) &&& 7 = 6 by decide, show (14 : Int32) - 8 = 6 by decide]
  exact (Post_trap h (k := 6) (by decide) (f_CO_signedImmediate σ)).2
theorem br1_15 (h : R1 σ τ) (hn : m_slot τ = false → m_next τ = m_pc τ + 4) (hrt : f_CO_rt σ = 15) : Post (f_PR_performOp1 σ) (f_MO_byRegister τ 15 (f_CO_s σ) (f_CO_signedImmediate σ)) := by
  unfold f_PR_performOp1 f_MO_byRegister
  simp (decide := true) only [hrt, f_MO_within, zb, reduceIte, f_PR_performOp1_52, f_AR_trapImmediate, i_MO_byRegister_c1]
  rw [show (15 : Int32) &&& 7 = 7 by decide, show (15 : Int32) - 8 = 7 by decide]
  exact (Post_trap h (k := 7) (by decide) (f_CO_signedImmediate σ)).2
theorem br1_16 (h : R1 σ τ) (hn : m_slot τ = false → m_next τ = m_pc τ + 4) (hrt : f_CO_rt σ = 16) : Post (f_PR_performOp1 σ) (f_MO_byRegister τ 16 (f_CO_s σ) (f_CO_signedImmediate σ)) := by
  unfold f_PR_performOp1 f_MO_byRegister
  simp (decide := true) only [hrt, f_MO_within, reduceIte, f_PR_performOp1_44, i_PR_performOp1_c1]
  unfold f_BR_bySign
  rw [hrt, R_inds h.1]
  cases hs : m_slot τ
  · have hn2 := hn hs
    have hpc := R_pc h.1
    by_cases e : 0 ≤ f_CO_s σ
    · have e2 : ¬ f_CO_s σ < 0 := Int32.not_lt.mpr e
      simp (decide := true) only [if_pos e, if_neg e2, zb, reduceIte, i_BR_bySign_c2, f_BR_bySign_c1, f_BR_bySign_68, f_BR_bySign_57, f_BR_bySign_36, i_MO_byRegister_c4, i_MO_byRegister_c3, f_MO_byRegister_130, f_MO_byRegister_105, f_MO_byRegister_c2, f_MO_byRegister_84, i_MO_byRegister_c1, br_pc, hpc, (put_m τ 31 (m_pc τ + 8)).1]
      exact Post_brl h hn2 _ _ rfl rfl
    · have e2 : f_CO_s σ < 0 := Int32.not_le.mp e
      simp (decide := true) only [if_neg e, if_pos e2, zb, reduceIte, i_BR_bySign_c2, f_BR_bySign_c1, f_BR_bySign_68, f_BR_bySign_57, f_BR_bySign_36, i_MO_byRegister_c4, i_MO_byRegister_c3, f_MO_byRegister_130, f_MO_byRegister_105, f_MO_byRegister_c2, f_MO_byRegister_84, i_MO_byRegister_c1, br_pc, hpc, (put_m τ 31 (m_pc τ + 8)).1]
      exact Post_brl h hn2 _ _ rfl rfl
  · simp (decide := true) only [zb, reduceIte, f_MO_byRegister_47, i_MO_byRegister_c4]
    exact Post_raise h (by decide)
theorem br1_17 (h : R1 σ τ) (hn : m_slot τ = false → m_next τ = m_pc τ + 4) (hrt : f_CO_rt σ = 17) : Post (f_PR_performOp1 σ) (f_MO_byRegister τ 17 (f_CO_s σ) (f_CO_signedImmediate σ)) := by
  unfold f_PR_performOp1 f_MO_byRegister
  simp (decide := true) only [hrt, f_MO_within, reduceIte, f_PR_performOp1_44, i_PR_performOp1_c1]
  unfold f_BR_bySign
  rw [hrt, R_inds h.1]
  cases hs : m_slot τ
  · have hn2 := hn hs
    have hpc := R_pc h.1
    by_cases e : 0 ≤ f_CO_s σ
    · have e2 : ¬ f_CO_s σ < 0 := Int32.not_lt.mpr e
      simp (decide := true) only [if_pos e, if_neg e2, zb, reduceIte, i_BR_bySign_c2, f_BR_bySign_c1, f_BR_bySign_68, f_BR_bySign_57, f_BR_bySign_36, i_MO_byRegister_c4, i_MO_byRegister_c3, f_MO_byRegister_130, f_MO_byRegister_105, f_MO_byRegister_c2, f_MO_byRegister_84, i_MO_byRegister_c1, br_pc, hpc, (put_m τ 31 (m_pc τ + 8)).1]
      exact Post_brl h hn2 _ _ rfl rfl
    · have e2 : f_CO_s σ < 0 := Int32.not_le.mp e
      simp (decide := true) only [if_neg e, if_pos e2, zb, reduceIte, i_BR_bySign_c2, f_BR_bySign_c1, f_BR_bySign_68, f_BR_bySign_57, f_BR_bySign_36, i_MO_byRegister_c4, i_MO_byRegister_c3, f_MO_byRegister_130, f_MO_byRegister_105, f_MO_byRegister_c2, f_MO_byRegister_84, i_MO_byRegister_c1, br_pc, hpc, (put_m τ 31 (m_pc τ + 8)).1]
      exact Post_brl h hn2 _ _ rfl rfl
  · simp (decide := true) only [zb, reduceIte, f_MO_byRegister_47, i_MO_byRegister_c4]
    exact Post_raise h (by decide)
theorem br1_18 (h : R1 σ τ) (hn : m_slot τ = false → m_next τ = m_pc τ + 4) (hrt : f_CO_rt σ = 18) : Post (f_PR_performOp1 σ) (f_MO_byRegister τ 18 (f_CO_s σ) (f_CO_signedImmediate σ)) := by
  unfold f_PR_performOp1 f_MO_byRegister
  simp (decide := true) only [hrt, f_MO_within, reduceIte, f_PR_performOp1_44, i_PR_performOp1_c1]
  unfold f_BR_bySign
  rw [hrt, R_inds h.1]
  cases hs : m_slot τ
  · have hn2 := hn hs
    have hpc := R_pc h.1
    by_cases e : 0 ≤ f_CO_s σ
    · have e2 : ¬ f_CO_s σ < 0 := Int32.not_lt.mpr e
      simp (decide := true) only [if_pos e, if_neg e2, zb, reduceIte, i_BR_bySign_c2, f_BR_bySign_c1, f_BR_bySign_68, f_BR_bySign_57, f_BR_bySign_36, i_MO_byRegister_c4, i_MO_byRegister_c3, f_MO_byRegister_130, f_MO_byRegister_105, f_MO_byRegister_c2, f_MO_byRegister_84, i_MO_byRegister_c1, br_pc, hpc, (put_m τ 31 (m_pc τ + 8)).1]
      exact Post_brl h hn2 _ _ rfl rfl
    · have e2 : f_CO_s σ < 0 := Int32.not_le.mp e
      simp (decide := true) only [if_neg e, if_pos e2, zb, reduceIte, i_BR_bySign_c2, f_BR_bySign_c1, f_BR_bySign_68, f_BR_bySign_57, f_BR_bySign_36, i_MO_byRegister_c4, i_MO_byRegister_c3, f_MO_byRegister_130, f_MO_byRegister_105, f_MO_byRegister_c2, f_MO_byRegister_84, i_MO_byRegister_c1, br_pc, hpc, (put_m τ 31 (m_pc τ + 8)).1]
      exact Post_brl h hn2 _ _ rfl rfl
  · simp (decide := true) only [zb, reduceIte, f_MO_byRegister_47, i_MO_byRegister_c4]
    exact Post_raise h (by decide)
theorem br1_19 (h : R1 σ τ) (hn : m_slot τ = false → m_next τ = m_pc τ + 4) (hrt : f_CO_rt σ = 19) : Post (f_PR_performOp1 σ) (f_MO_byRegister τ 19 (f_CO_s σ) (f_CO_signedImmediate σ)) := by
  unfold f_PR_performOp1 f_MO_byRegister
  simp (decide := true) only [hrt, f_MO_within, reduceIte, f_PR_performOp1_44, i_PR_performOp1_c1]
  unfold f_BR_bySign
  rw [hrt, R_inds h.1]
  cases hs : m_slot τ
  · have hn2 := hn hs
    have hpc := R_pc h.1
    by_cases e : 0 ≤ f_CO_s σ
    · have e2 : ¬ f_CO_s σ < 0 := Int32.not_lt.mpr e
      simp (decide := true) only [if_pos e, if_neg e2, zb, reduceIte, i_BR_bySign_c2, f_BR_bySign_c1, f_BR_bySign_68, f_BR_bySign_57, f_BR_bySign_36, i_MO_byRegister_c4, i_MO_byRegister_c3, f_MO_byRegister_130, f_MO_byRegister_105, f_MO_byRegister_c2, f_MO_byRegister_84, i_MO_byRegister_c1, br_pc, hpc, (put_m τ 31 (m_pc τ + 8)).1]
      exact Post_brl h hn2 _ _ rfl rfl
    · have e2 : f_CO_s σ < 0 := Int32.not_le.mp e
      simp (decide := true) only [if_neg e, if_pos e2, zb, reduceIte, i_BR_bySign_c2, f_BR_bySign_c1, f_BR_bySign_68, f_BR_bySign_57, f_BR_bySign_36, i_MO_byRegister_c4, i_MO_byRegister_c3, f_MO_byRegister_130, f_MO_byRegister_105, f_MO_byRegister_c2, f_MO_byRegister_84, i_MO_byRegister_c1, br_pc, hpc, (put_m τ 31 (m_pc τ + 8)).1]
      exact Post_brl h hn2 _ _ rfl rfl
  · simp (decide := true) only [zb, reduceIte, f_MO_byRegister_47, i_MO_byRegister_c4]
    exact Post_raise h (by decide)
theorem br1_20 (h : R1 σ τ) (hn : m_slot τ = false → m_next τ = m_pc τ + 4) (hrt : f_CO_rt σ = 20) : Post (f_PR_performOp1 σ) (f_MO_byRegister τ 20 (f_CO_s σ) (f_CO_signedImmediate σ)) := by
  unfold f_PR_performOp1 f_MO_byRegister
  simp (decide := true) only [hrt, f_MO_within, zb, reduceIte, f_MO_byRegister_47, i_MO_byRegister_c4]
  exact Post_raise h (by decide)
theorem br1_21 (h : R1 σ τ) (hn : m_slot τ = false → m_next τ = m_pc τ + 4) (hrt : f_CO_rt σ = 21) : Post (f_PR_performOp1 σ) (f_MO_byRegister τ 21 (f_CO_s σ) (f_CO_signedImmediate σ)) := by
  unfold f_PR_performOp1 f_MO_byRegister
  simp (decide := true) only [hrt, f_MO_within, zb, reduceIte, f_MO_byRegister_47, i_MO_byRegister_c4]
  exact Post_raise h (by decide)
theorem br1_22 (h : R1 σ τ) (hn : m_slot τ = false → m_next τ = m_pc τ + 4) (hrt : f_CO_rt σ = 22) : Post (f_PR_performOp1 σ) (f_MO_byRegister τ 22 (f_CO_s σ) (f_CO_signedImmediate σ)) := by
  unfold f_PR_performOp1 f_MO_byRegister
  simp (decide := true) only [hrt, f_MO_within, zb, reduceIte, f_MO_byRegister_47, i_MO_byRegister_c4]
  exact Post_raise h (by decide)
theorem br1_23 (h : R1 σ τ) (hn : m_slot τ = false → m_next τ = m_pc τ + 4) (hrt : f_CO_rt σ = 23) : Post (f_PR_performOp1 σ) (f_MO_byRegister τ 23 (f_CO_s σ) (f_CO_signedImmediate σ)) := by
  unfold f_PR_performOp1 f_MO_byRegister
  simp (decide := true) only [hrt, f_MO_within, zb, reduceIte, f_MO_byRegister_47, i_MO_byRegister_c4]
  exact Post_raise h (by decide)
theorem br1_24 (h : R1 σ τ) (hn : m_slot τ = false → m_next τ = m_pc τ + 4) (hrt : f_CO_rt σ = 24) : Post (f_PR_performOp1 σ) (f_MO_byRegister τ 24 (f_CO_s σ) (f_CO_signedImmediate σ)) := by
  unfold f_PR_performOp1 f_MO_byRegister
  simp (decide := true) only [hrt, f_MO_within, zb, reduceIte, f_MO_byRegister_47, i_MO_byRegister_c4]
  exact Post_raise h (by decide)
theorem br1_25 (h : R1 σ τ) (hn : m_slot τ = false → m_next τ = m_pc τ + 4) (hrt : f_CO_rt σ = 25) : Post (f_PR_performOp1 σ) (f_MO_byRegister τ 25 (f_CO_s σ) (f_CO_signedImmediate σ)) := by
  unfold f_PR_performOp1 f_MO_byRegister
  simp (decide := true) only [hrt, f_MO_within, zb, reduceIte, f_MO_byRegister_47, i_MO_byRegister_c4]
  exact Post_raise h (by decide)
theorem br1_26 (h : R1 σ τ) (hn : m_slot τ = false → m_next τ = m_pc τ + 4) (hrt : f_CO_rt σ = 26) : Post (f_PR_performOp1 σ) (f_MO_byRegister τ 26 (f_CO_s σ) (f_CO_signedImmediate σ)) := by
  unfold f_PR_performOp1 f_MO_byRegister
  simp (decide := true) only [hrt, f_MO_within, zb, reduceIte, f_MO_byRegister_47, i_MO_byRegister_c4]
  exact Post_raise h (by decide)
theorem br1_27 (h : R1 σ τ) (hn : m_slot τ = false → m_next τ = m_pc τ + 4) (hrt : f_CO_rt σ = 27) : Post (f_PR_performOp1 σ) (f_MO_byRegister τ 27 (f_CO_s σ) (f_CO_signedImmediate σ)) := by
  unfold f_PR_performOp1 f_MO_byRegister
  simp (decide := true) only [hrt, f_MO_within, zb, reduceIte, f_MO_byRegister_47, i_MO_byRegister_c4]
  exact Post_raise h (by decide)
theorem br1_28 (h : R1 σ τ) (hn : m_slot τ = false → m_next τ = m_pc τ + 4) (hrt : f_CO_rt σ = 28) : Post (f_PR_performOp1 σ) (f_MO_byRegister τ 28 (f_CO_s σ) (f_CO_signedImmediate σ)) := by
  unfold f_PR_performOp1 f_MO_byRegister
  simp (decide := true) only [hrt, f_MO_within, zb, reduceIte, f_MO_byRegister_47, i_MO_byRegister_c4]
  exact Post_raise h (by decide)
theorem br1_29 (h : R1 σ τ) (hn : m_slot τ = false → m_next τ = m_pc τ + 4) (hrt : f_CO_rt σ = 29) : Post (f_PR_performOp1 σ) (f_MO_byRegister τ 29 (f_CO_s σ) (f_CO_signedImmediate σ)) := by
  unfold f_PR_performOp1 f_MO_byRegister
  simp (decide := true) only [hrt, f_MO_within, zb, reduceIte, f_MO_byRegister_47, i_MO_byRegister_c4]
  exact Post_raise h (by decide)
theorem br1_30 (h : R1 σ τ) (hn : m_slot τ = false → m_next τ = m_pc τ + 4) (hrt : f_CO_rt σ = 30) : Post (f_PR_performOp1 σ) (f_MO_byRegister τ 30 (f_CO_s σ) (f_CO_signedImmediate σ)) := by
  unfold f_PR_performOp1 f_MO_byRegister
  simp (decide := true) only [hrt, f_MO_within, zb, reduceIte, f_MO_byRegister_47, i_MO_byRegister_c4]
  exact Post_raise h (by decide)
theorem br1_31 (h : R1 σ τ) (hn : m_slot τ = false → m_next τ = m_pc τ + 4) (hrt : f_CO_rt σ = 31) : Post (f_PR_performOp1 σ) (f_MO_byRegister τ 31 (f_CO_s σ) (f_CO_signedImmediate σ)) := by
  unfold f_PR_performOp1 f_MO_byRegister
  simp (decide := true) only [hrt, f_MO_within, zb, reduceIte, f_MO_byRegister_47, i_MO_byRegister_c4]
  exact Post_raise h (by decide)
theorem byReg_ag (h : R1 σ τ) (hn : m_slot τ = false → m_next τ = m_pc τ + 4) : Post (f_PR_performOp1 σ) (f_MO_byRegister τ (f_CO_rt σ) (f_CO_s σ) (f_CO_signedImmediate σ)) := by
  obtain ⟨k, hk, hf⟩ := and31z (rtok σ)
  rw [hf]
  revert hf
  exact c32 (P := fun k => f_CO_rt σ = nI k → Post (f_PR_performOp1 σ) (f_MO_byRegister τ (nI k) (f_CO_s σ) (f_CO_signedImmediate σ))) (fun q => br1_0 h hn q) (fun q => br1_1 h hn q) (fun q => br1_2 h hn q) (fun q => br1_3 h hn q) (fun q => br1_4 h hn q) (fun q => br1_5 h hn q) (fun q => br1_6 h hn q) (fun q => br1_7 h hn q) (fun q => br1_8 h hn q) (fun q => br1_9 h hn q) (fun q => br1_10 h hn q) (fun q => br1_11 h hn q) (fun q => br1_12 h hn q) (fun q => br1_13 h hn q) (fun q => br1_14 h hn q) (fun q => br1_15 h hn q) (fun q => br1_16 h hn q) (fun q => br1_17 h hn q) (fun q => br1_18 h hn q) (fun q => br1_19 h hn q) (fun q => br1_20 h hn q) (fun q => br1_21 h hn q) (fun q => br1_22 h hn q) (fun q => br1_23 h hn q) (fun q => br1_24 h hn q) (fun q => br1_25 h hn q) (fun q => br1_26 h hn q) (fun q => br1_27 h hn q) (fun q => br1_28 h hn q) (fun q => br1_29 h hn q) (fun q => br1_30 h hn q) (fun q => br1_31 h hn q) k hk
theorem brs_2 (h : R1 σ τ) (hn : m_slot τ = false → m_next τ = m_pc τ + 4) : Post (f_BR_jump σ false) (f_MO_branches τ (x_instr σ) 2 (f_CO_s σ) (f_CO_t σ) (f_CO_signedImmediate σ)) := by
  unfold f_BR_jump f_MO_branches
  have hpc := R_pc h.1
  rw [R_inds h.1, hpc]
  cases hs : m_slot τ
  · have hn2 := hn hs
    simp (decide := true) only [zb, reduceIte, i_MO_branches_c4, f_MO_branches_159, f_MO_branches_132, i_MO_branches_c3, f_MO_branches_38, i_MO_branches_c2, f_MO_branches_c1, f_BR_jump_c1, i_BR_jump_c2]
    rw [br_eq]
    exact Or.inl ⟨rfl, goB_ag h hn2 _⟩
  · simp (decide := true) only [zb, reduceIte, i_MO_branches_c2]
    exact Post_raise h (by decide)
theorem brs_3 (h : R1 σ τ) (hn : m_slot τ = false → m_next τ = m_pc τ + 4) : Post (f_BR_jump σ true) (f_MO_branches τ (x_instr σ) 3 (f_CO_s σ) (f_CO_t σ) (f_CO_signedImmediate σ)) := by
  unfold f_BR_jump f_MO_branches
  have hpc := R_pc h.1
  rw [R_inds h.1, hpc]
  cases hs : m_slot τ
  · have hn2 := hn hs
    simp (decide := true) only [zb, reduceIte, i_MO_branches_c4, f_MO_branches_159, f_MO_branches_132, i_MO_branches_c3, f_MO_branches_38, i_MO_branches_c2, f_MO_branches_c1, f_BR_jump_c1, i_BR_jump_c2, (put_m τ 31 (m_pc τ + 8)).1]
    have hp := R1_put h (a := 31) (m_pc τ + 8) (by decide)
    have hm := put_m τ 31 (m_pc τ + 8)
    have e1 : ∀ v, x_pc (f_CO_goBehindSlotTo σ v) = m_pc τ := fun v => by
      rw [← hpc]
      rfl
    rw [br_eq, e1, put_goB]
    exact Or.inl ⟨rfl, goB_ag hp.1 (by rw [hm.1, hm.2.1, hn2]) _⟩
  · simp (decide := true) only [zb, reduceIte, i_MO_branches_c2]
    exact Post_raise h (by decide)
theorem brs_4 (h : R1 σ τ) (hn : m_slot τ = false → m_next τ = m_pc τ + 4) (hop : f_CO_op σ = 4) : Post (f_BR_byComparison σ) (f_MO_branches τ (x_instr σ) 4 (f_CO_s σ) (f_CO_t σ) (f_CO_signedImmediate σ)) := by
  unfold f_BR_byComparison f_MO_branches
  rw [R_inds h.1, hop]
  cases hs : m_slot τ
  · have hn2 := hn hs
    simp (decide := true) only [zb, reduceIte]
    by_cases e : f_CO_s σ = f_CO_t σ
    · simp (decide := true) only [f_BR_holds, if_pos e, reduceIte, i_MO_branches_c4, f_MO_branches_159, f_MO_branches_132, i_MO_branches_c3, i_MO_branches_c2, f_MO_branches_c1, f_BR_byComparison_57, f_BR_byComparison_c1]
      exact Post_br h hn2 _ _ rfl
    · simp (decide := true) only [f_BR_holds, if_neg e, reduceIte, i_MO_branches_c4, f_MO_branches_159, f_MO_branches_132, i_MO_branches_c3, i_MO_branches_c2, f_MO_branches_c1, f_BR_byComparison_57, f_BR_byComparison_c1]
      exact Post_br h hn2 _ _ rfl
  · simp (decide := true) only [zb, reduceIte, i_MO_branches_c2]
    exact Post_raise h (by decide)
theorem brs_5 (h : R1 σ τ) (hn : m_slot τ = false → m_next τ = m_pc τ + 4) (hop : f_CO_op σ = 5) : Post (f_BR_byComparison σ) (f_MO_branches τ (x_instr σ) 5 (f_CO_s σ) (f_CO_t σ) (f_CO_signedImmediate σ)) := by
  unfold f_BR_byComparison f_MO_branches
  rw [R_inds h.1, hop]
  cases hs : m_slot τ
  · have hn2 := hn hs
    simp (decide := true) only [zb, reduceIte]
    by_cases e : f_CO_s σ = f_CO_t σ
    · simp (decide := true) only [f_BR_holds, if_pos e, reduceIte, i_MO_branches_c4, f_MO_branches_159, f_MO_branches_132, i_MO_branches_c3, i_MO_branches_c2, f_MO_branches_c1, f_BR_byComparison_57, f_BR_byComparison_c1]
      exact Post_br h hn2 _ _ rfl
    · simp (decide := true) only [f_BR_holds, if_neg e, reduceIte, i_MO_branches_c4, f_MO_branches_159, f_MO_branches_132, i_MO_branches_c3, i_MO_branches_c2, f_MO_branches_c1, f_BR_byComparison_57, f_BR_byComparison_c1]
      exact Post_br h hn2 _ _ rfl
  · simp (decide := true) only [zb, reduceIte, i_MO_branches_c2]
    exact Post_raise h (by decide)
theorem brs_6 (h : R1 σ τ) (hn : m_slot τ = false → m_next τ = m_pc τ + 4) (hop : f_CO_op σ = 6) : Post (f_BR_byComparison σ) (f_MO_branches τ (x_instr σ) 6 (f_CO_s σ) (f_CO_t σ) (f_CO_signedImmediate σ)) := by
  unfold f_BR_byComparison f_MO_branches
  rw [R_inds h.1, hop]
  cases hs : m_slot τ
  · have hn2 := hn hs
    simp (decide := true) only [zb, reduceIte]
    by_cases e : 0 < f_CO_s σ
    · simp (decide := true) only [f_BR_holds, if_pos e, reduceIte, i_MO_branches_c4, f_MO_branches_159, f_MO_branches_132, i_MO_branches_c3, i_MO_branches_c2, f_MO_branches_c1, f_BR_byComparison_57, f_BR_byComparison_c1]
      exact Post_br h hn2 _ _ rfl
    · simp (decide := true) only [f_BR_holds, if_neg e, reduceIte, i_MO_branches_c4, f_MO_branches_159, f_MO_branches_132, i_MO_branches_c3, i_MO_branches_c2, f_MO_branches_c1, f_BR_byComparison_57, f_BR_byComparison_c1]
      exact Post_br h hn2 _ _ rfl
  · simp (decide := true) only [zb, reduceIte, i_MO_branches_c2]
    exact Post_raise h (by decide)
theorem brs_7 (h : R1 σ τ) (hn : m_slot τ = false → m_next τ = m_pc τ + 4) (hop : f_CO_op σ = 7) : Post (f_BR_byComparison σ) (f_MO_branches τ (x_instr σ) 7 (f_CO_s σ) (f_CO_t σ) (f_CO_signedImmediate σ)) := by
  unfold f_BR_byComparison f_MO_branches
  rw [R_inds h.1, hop]
  cases hs : m_slot τ
  · have hn2 := hn hs
    simp (decide := true) only [zb, reduceIte]
    by_cases e : f_CO_s σ ≤ 0
    · simp (decide := true) only [f_BR_holds, if_pos e, reduceIte, i_MO_branches_c4, f_MO_branches_159, f_MO_branches_132, i_MO_branches_c3, i_MO_branches_c2, f_MO_branches_c1, f_BR_byComparison_57, f_BR_byComparison_c1]
      exact Post_br h hn2 _ _ rfl
    · simp (decide := true) only [f_BR_holds, if_neg e, reduceIte, i_MO_branches_c4, f_MO_branches_159, f_MO_branches_132, i_MO_branches_c3, i_MO_branches_c2, f_MO_branches_c1, f_BR_byComparison_57, f_BR_byComparison_c1]
      exact Post_br h hn2 _ _ rfl
  · simp (decide := true) only [zb, reduceIte, i_MO_branches_c2]
    exact Post_raise h (by decide)
theorem brs_20 (h : R1 σ τ) (hn : m_slot τ = false → m_next τ = m_pc τ + 4) (hop : f_CO_op σ = 20) : Post (f_BR_byComparison σ) (f_MO_branches τ (x_instr σ) 20 (f_CO_s σ) (f_CO_t σ) (f_CO_signedImmediate σ)) := by
  unfold f_BR_byComparison f_MO_branches
  rw [R_inds h.1, hop]
  cases hs : m_slot τ
  · have hn2 := hn hs
    simp (decide := true) only [zb, reduceIte]
    by_cases e : f_CO_s σ = f_CO_t σ
    · simp (decide := true) only [f_BR_holds, if_pos e, reduceIte, i_MO_branches_c4, f_MO_branches_159, f_MO_branches_132, i_MO_branches_c3, i_MO_branches_c2, f_MO_branches_c1, f_BR_byComparison_57, f_BR_byComparison_c1]
      exact Post_br h hn2 _ _ rfl
    · simp (decide := true) only [f_BR_holds, if_neg e, reduceIte, i_MO_branches_c4, f_MO_branches_159, f_MO_branches_132, i_MO_branches_c3, i_MO_branches_c2, f_MO_branches_c1, f_BR_byComparison_57, f_BR_byComparison_c1]
      exact Post_br h hn2 _ _ rfl
  · simp (decide := true) only [zb, reduceIte, i_MO_branches_c2]
    exact Post_raise h (by decide)
theorem brs_21 (h : R1 σ τ) (hn : m_slot τ = false → m_next τ = m_pc τ + 4) (hop : f_CO_op σ = 21) : Post (f_BR_byComparison σ) (f_MO_branches τ (x_instr σ) 21 (f_CO_s σ) (f_CO_t σ) (f_CO_signedImmediate σ)) := by
  unfold f_BR_byComparison f_MO_branches
  rw [R_inds h.1, hop]
  cases hs : m_slot τ
  · have hn2 := hn hs
    simp (decide := true) only [zb, reduceIte]
    by_cases e : f_CO_s σ = f_CO_t σ
    · simp (decide := true) only [f_BR_holds, if_pos e, reduceIte, i_MO_branches_c4, f_MO_branches_159, f_MO_branches_132, i_MO_branches_c3, i_MO_branches_c2, f_MO_branches_c1, f_BR_byComparison_57, f_BR_byComparison_c1]
      exact Post_br h hn2 _ _ rfl
    · simp (decide := true) only [f_BR_holds, if_neg e, reduceIte, i_MO_branches_c4, f_MO_branches_159, f_MO_branches_132, i_MO_branches_c3, i_MO_branches_c2, f_MO_branches_c1, f_BR_byComparison_57, f_BR_byComparison_c1]
      exact Post_br h hn2 _ _ rfl
  · simp (decide := true) only [zb, reduceIte, i_MO_branches_c2]
    exact Post_raise h (by decide)
theorem brs_22 (h : R1 σ τ) (hn : m_slot τ = false → m_next τ = m_pc τ + 4) (hop : f_CO_op σ = 22) : Post (f_BR_byComparison σ) (f_MO_branches τ (x_instr σ) 22 (f_CO_s σ) (f_CO_t σ) (f_CO_signedImmediate σ)) := by
  unfold f_BR_byComparison f_MO_branches
  rw [R_inds h.1, hop]
  cases hs : m_slot τ
  · have hn2 := hn hs
    simp (decide := true) only [zb, reduceIte]
    by_cases e : 0 < f_CO_s σ
    · simp (decide := true) only [f_BR_holds, if_pos e, reduceIte, i_MO_branches_c4, f_MO_branches_159, f_MO_branches_132, i_MO_branches_c3, i_MO_branches_c2, f_MO_branches_c1, f_BR_byComparison_57, f_BR_byComparison_c1]
      exact Post_br h hn2 _ _ rfl
    · simp (decide := true) only [f_BR_holds, if_neg e, reduceIte, i_MO_branches_c4, f_MO_branches_159, f_MO_branches_132, i_MO_branches_c3, i_MO_branches_c2, f_MO_branches_c1, f_BR_byComparison_57, f_BR_byComparison_c1]
      exact Post_br h hn2 _ _ rfl
  · simp (decide := true) only [zb, reduceIte, i_MO_branches_c2]
    exact Post_raise h (by decide)
theorem brs_23 (h : R1 σ τ) (hn : m_slot τ = false → m_next τ = m_pc τ + 4) (hop : f_CO_op σ = 23) : Post (f_BR_byComparison σ) (f_MO_branches τ (x_instr σ) 23 (f_CO_s σ) (f_CO_t σ) (f_CO_signedImmediate σ)) := by
  unfold f_BR_byComparison f_MO_branches
  rw [R_inds h.1, hop]
  cases hs : m_slot τ
  · have hn2 := hn hs
    simp (decide := true) only [zb, reduceIte]
    by_cases e : f_CO_s σ ≤ 0
    · simp (decide := true) only [f_BR_holds, if_pos e, reduceIte, i_MO_branches_c4, f_MO_branches_159, f_MO_branches_132, i_MO_branches_c3, i_MO_branches_c2, f_MO_branches_c1, f_BR_byComparison_57, f_BR_byComparison_c1]
      exact Post_br h hn2 _ _ rfl
    · simp (decide := true) only [f_BR_holds, if_neg e, reduceIte, i_MO_branches_c4, f_MO_branches_159, f_MO_branches_132, i_MO_branches_c3, i_MO_branches_c2, f_MO_branches_c1, f_BR_byComparison_57, f_BR_byComparison_c1]
      exact Post_br h hn2 _ _ rfl
  · simp (decide := true) only [zb, reduceIte, i_MO_branches_c2]
    exact Post_raise h (by decide)
theorem imm_8 (h : R1 σ τ) (hop : f_CO_op σ = 8) : Post (f_AR_immediate σ) (f_MO_immediate τ 8 (f_CO_rt σ) (f_CO_s σ) (f_CO_signedImmediate σ)) := by
  have hrt := rtok σ
  unfold f_AR_immediate f_MO_immediate
  rw [hop]
  have hc := Post_chk h hrt ((Int32.toInt64 (f_CO_s σ)) + (Int32.toInt64 (f_CO_signedImmediate σ)))
  have ev : Int64.toInt32 ((Int32.toInt64 (f_CO_s σ)) + (Int32.toInt64 (f_CO_signedImmediate σ))) = f_CO_s σ + f_CO_signedImmediate σ := by
    rw [lg_l2i_add, lg_l2i_i2l, lg_l2i_i2l]
  simp (decide := true) only [reduceIte, i_AR_immediate_c8, f_AR_immediate_126, i_AR_immediate_c7, f_AR_immediate_148, i_AR_immediate_c6, i_AR_immediate_c5, i_AR_immediate_c4, i_AR_immediate_c3, i_AR_immediate_c2, i_AR_immediate_c1, i_MO_immediate_c2, f_MO_immediate_139, f_MO_immediate_39, i_MO_immediate_c1]
  rw [ev] at hc ⊢
  exact hc
theorem imm_9 (h : R1 σ τ) (hop : f_CO_op σ = 9) : Post (f_AR_immediate σ) (f_MO_immediate τ 9 (f_CO_rt σ) (f_CO_s σ) (f_CO_signedImmediate σ)) := by
  have hrt := rtok σ
  unfold f_AR_immediate f_MO_immediate
  rw [hop]
  simp (decide := true) only [reduceIte, i_AR_immediate_c8, f_AR_immediate_126, i_AR_immediate_c7, f_AR_immediate_148, i_AR_immediate_c6, i_AR_immediate_c5, i_AR_immediate_c4, i_AR_immediate_c3, i_AR_immediate_c2, i_AR_immediate_c1, i_MO_immediate_c2, f_MO_immediate_139, f_MO_immediate_39, i_MO_immediate_c1]
  exact Post_put h hrt rfl
theorem imm_10 (h : R1 σ τ) (hop : f_CO_op σ = 10) : Post (f_AR_immediate σ) (f_MO_immediate τ 10 (f_CO_rt σ) (f_CO_s σ) (f_CO_signedImmediate σ)) := by
  have hrt := rtok σ
  unfold f_AR_immediate f_MO_immediate
  rw [hop]
  by_cases e : f_CO_signedImmediate σ ≤ f_CO_s σ
  · simp (decide := true) only [if_pos e, reduceIte, i_AR_immediate_c8, f_AR_immediate_126, i_AR_immediate_c7, f_AR_immediate_148, i_AR_immediate_c6, i_AR_immediate_c5, i_AR_immediate_c4, i_AR_immediate_c3, i_AR_immediate_c2, i_AR_immediate_c1, i_MO_immediate_c2, f_MO_immediate_139, f_MO_immediate_39, i_MO_immediate_c1]
    exact Post_put h hrt rfl
  · simp (decide := true) only [if_neg e, reduceIte, i_AR_immediate_c8, f_AR_immediate_126, i_AR_immediate_c7, f_AR_immediate_148, i_AR_immediate_c6, i_AR_immediate_c5, i_AR_immediate_c4, i_AR_immediate_c3, i_AR_immediate_c2, i_AR_immediate_c1, i_MO_immediate_c2, f_MO_immediate_139, f_MO_immediate_39, i_MO_immediate_c1]
    exact Post_put h hrt rfl
theorem imm_11 (h : R1 σ τ) (hop : f_CO_op σ = 11) : Post (f_AR_immediate σ) (f_MO_immediate τ 11 (f_CO_rt σ) (f_CO_s σ) (f_CO_signedImmediate σ)) := by
  have hrt := rtok σ
  unfold f_AR_immediate f_MO_immediate
  rw [hop]
  have hb : f_AR_plainlyBelow σ (f_CO_s σ) (f_CO_signedImmediate σ) = f_MO_isBelow τ (f_CO_s σ) (f_CO_signedImmediate σ) := rfl
  simp (decide := true) only [reduceIte, hb, i_AR_immediate_c8, f_AR_immediate_126, i_AR_immediate_c7, f_AR_immediate_148, i_AR_immediate_c6, i_AR_immediate_c5, i_AR_immediate_c4, i_AR_immediate_c3, i_AR_immediate_c2, i_AR_immediate_c1, i_MO_immediate_c2, f_MO_immediate_139, f_MO_immediate_39, i_MO_immediate_c1]
  cases f_MO_isBelow τ (f_CO_s σ) (f_CO_signedImmediate σ)
  · exact Post_put h hrt rfl
  · exact Post_put h hrt rfl
theorem imm_12 (h : R1 σ τ) (hop : f_CO_op σ = 12) : Post (f_AR_immediate σ) (f_MO_immediate τ 12 (f_CO_rt σ) (f_CO_s σ) (f_CO_signedImmediate σ)) := by
  have hrt := rtok σ
  unfold f_AR_immediate f_MO_immediate
  rw [hop]
  simp (decide := true) only [reduceIte, i_AR_immediate_c8, f_AR_immediate_126, i_AR_immediate_c7, f_AR_immediate_148, i_AR_immediate_c6, i_AR_immediate_c5, i_AR_immediate_c4, i_AR_immediate_c3, i_AR_immediate_c2, i_AR_immediate_c1, i_MO_immediate_c2, f_MO_immediate_139, f_MO_immediate_39, i_MO_immediate_c1]
  have hi : f_CO_signedImmediate σ &&& (65535 : Int32) = f_CO_plainImmediate σ := immu16 _
  rw [hi]
  exact Post_put h hrt rfl
theorem imm_13 (h : R1 σ τ) (hop : f_CO_op σ = 13) : Post (f_AR_immediate σ) (f_MO_immediate τ 13 (f_CO_rt σ) (f_CO_s σ) (f_CO_signedImmediate σ)) := by
  have hrt := rtok σ
  unfold f_AR_immediate f_MO_immediate
  rw [hop]
  simp (decide := true) only [reduceIte, i_AR_immediate_c8, f_AR_immediate_126, i_AR_immediate_c7, f_AR_immediate_148, i_AR_immediate_c6, i_AR_immediate_c5, i_AR_immediate_c4, i_AR_immediate_c3, i_AR_immediate_c2, i_AR_immediate_c1, i_MO_immediate_c2, f_MO_immediate_139, f_MO_immediate_39, i_MO_immediate_c1]
  have hi : f_CO_signedImmediate σ &&& (65535 : Int32) = f_CO_plainImmediate σ := immu16 _
  rw [hi]
  exact Post_put h hrt rfl
theorem imm_14 (h : R1 σ τ) (hop : f_CO_op σ = 14) : Post (f_AR_immediate σ) (f_MO_immediate τ 14 (f_CO_rt σ) (f_CO_s σ) (f_CO_signedImmediate σ)) := by
  have hrt := rtok σ
  unfold f_AR_immediate f_MO_immediate
  rw [hop]
  simp (decide := true) only [reduceIte, i_AR_immediate_c8, f_AR_immediate_126, i_AR_immediate_c7, f_AR_immediate_148, i_AR_immediate_c6, i_AR_immediate_c5, i_AR_immediate_c4, i_AR_immediate_c3, i_AR_immediate_c2, i_AR_immediate_c1, i_MO_immediate_c2, f_MO_immediate_139, f_MO_immediate_39, i_MO_immediate_c1]
  have hi : f_CO_signedImmediate σ &&& (65535 : Int32) = f_CO_plainImmediate σ := immu16 _
  rw [hi]
  exact Post_put h hrt rfl
theorem imm_15 (h : R1 σ τ) (hop : f_CO_op σ = 15) : Post (f_AR_immediate σ) (f_MO_immediate τ 15 (f_CO_rt σ) (f_CO_s σ) (f_CO_signedImmediate σ)) := by
  have hrt := rtok σ
  unfold f_AR_immediate f_MO_immediate
  rw [hop]
  simp (decide := true) only [reduceIte, i_AR_immediate_c8, f_AR_immediate_126, i_AR_immediate_c7, f_AR_immediate_148, i_AR_immediate_c6, i_AR_immediate_c5, i_AR_immediate_c4, i_AR_immediate_c3, i_AR_immediate_c2, i_AR_immediate_c1, i_MO_immediate_c2, f_MO_immediate_139, f_MO_immediate_39, i_MO_immediate_c1]
  have hi : f_CO_signedImmediate σ &&& (65535 : Int32) = f_CO_plainImmediate σ := immu16 _
  rw [hi]
  exact Post_put h hrt rfl
theorem P_multiplies (τ : MS) (σ : XS) (s t : Int32) : P_MO_multiplies τ (x_instr σ) s t := by
  have hrd : vp_in ((x_instr σ >>> ((11 : Int32) &&& 31)) &&& (31 : Int32)) 32 := vin31 (and31 _)
  repeat' (first | exact trivial | exact hrd | apply And.intro | intro _)
theorem mul_0 (h : R1 σ τ) (hfn : f_CO_fn σ = 0) : Post (f_AR_performOp1C σ) (f_MO_multiplies τ (x_instr σ) (f_CO_s σ) (f_CO_t σ)) := by
  have hfm : x_instr σ &&& (63 : Int32) = 0 := hfn
  have hrd := rdok σ
  unfold f_AR_performOp1C f_MO_multiplies
  rw [hfn, hfm, e_rd]
  simp (decide := true) only [reduceIte, i_AR_performOp1C_c7, i_AR_performOp1C_c6, i_AR_performOp1C_c5, i_AR_performOp1C_c4, i_AR_performOp1C_c3, i_AR_performOp1C_c2, i_AR_performOp1C_c1, i_MO_multiplies_c5, f_MO_multiplies_98, i_MO_multiplies_c4, f_MO_multiplies_159, f_MO_multiplies_142, i_MO_multiplies_c3, i_MO_multiplies_c2, i_MO_multiplies_c1, f_MO_multiplies_51, f_MO_multiplies_46]
  have hh : f_AR_hiLo σ = ((Int32.toInt64 (m_hi τ)) <<< (Int32.toInt64 (32 : Int32) &&& 63)) ||| ((Int32.toInt64 (m_lo τ)) &&& (4294967295 : Int64)) := by
    unfold f_AR_hiLo f_AR_plain
    rw [R_hi h.1, R_lo h.1]
  rw [hh]
  exact Post_both h rfl
theorem mul_1 (h : R1 σ τ) (hfn : f_CO_fn σ = 1) : Post (f_AR_performOp1C σ) (f_MO_multiplies τ (x_instr σ) (f_CO_s σ) (f_CO_t σ)) := by
  have hfm : x_instr σ &&& (63 : Int32) = 1 := hfn
  have hrd := rdok σ
  unfold f_AR_performOp1C f_MO_multiplies
  rw [hfn, hfm, e_rd]
  simp (decide := true) only [reduceIte, i_AR_performOp1C_c7, i_AR_performOp1C_c6, i_AR_performOp1C_c5, i_AR_performOp1C_c4, i_AR_performOp1C_c3, i_AR_performOp1C_c2, i_AR_performOp1C_c1, i_MO_multiplies_c5, f_MO_multiplies_98, i_MO_multiplies_c4, f_MO_multiplies_159, f_MO_multiplies_142, i_MO_multiplies_c3, i_MO_multiplies_c2, i_MO_multiplies_c1, f_MO_multiplies_51, f_MO_multiplies_46]
  have hh : f_AR_hiLo σ = ((Int32.toInt64 (m_hi τ)) <<< (Int32.toInt64 (32 : Int32) &&& 63)) ||| ((Int32.toInt64 (m_lo τ)) &&& (4294967295 : Int64)) := by
    unfold f_AR_hiLo f_AR_plain
    rw [R_hi h.1, R_lo h.1]
  rw [hh]
  exact Post_both h rfl
theorem mul_2 (h : R1 σ τ) (hfn : f_CO_fn σ = 2) : Post (f_AR_performOp1C σ) (f_MO_multiplies τ (x_instr σ) (f_CO_s σ) (f_CO_t σ)) := by
  have hfm : x_instr σ &&& (63 : Int32) = 2 := hfn
  have hrd := rdok σ
  unfold f_AR_performOp1C f_MO_multiplies
  rw [hfn, hfm, e_rd]
  simp (decide := true) only [reduceIte, i_AR_performOp1C_c7, i_AR_performOp1C_c6, i_AR_performOp1C_c5, i_AR_performOp1C_c4, i_AR_performOp1C_c3, i_AR_performOp1C_c2, i_AR_performOp1C_c1, i_MO_multiplies_c5, f_MO_multiplies_98, i_MO_multiplies_c4, f_MO_multiplies_159, f_MO_multiplies_142, i_MO_multiplies_c3, i_MO_multiplies_c2, i_MO_multiplies_c1, f_MO_multiplies_51, f_MO_multiplies_46]
  exact Post_put h hrd rfl
theorem mul_3 (h : R1 σ τ) (hfn : f_CO_fn σ = 3) : Post (f_AR_performOp1C σ) (f_MO_multiplies τ (x_instr σ) (f_CO_s σ) (f_CO_t σ)) := by
  have hfm : x_instr σ &&& (63 : Int32) = 3 := hfn
  have hrd := rdok σ
  unfold f_AR_performOp1C f_MO_multiplies
  rw [hfn, hfm, e_rd]
  simp (decide := true) only [reduceIte, i_AR_performOp1C_c7, i_AR_performOp1C_c6, i_AR_performOp1C_c5, i_AR_performOp1C_c4, i_AR_performOp1C_c3, i_AR_performOp1C_c2, i_AR_performOp1C_c1, i_MO_multiplies_c5, f_MO_multiplies_98, i_MO_multiplies_c4, f_MO_multiplies_159, f_MO_multiplies_142, i_MO_multiplies_c3, i_MO_multiplies_c2, i_MO_multiplies_c1, f_MO_multiplies_51, f_MO_multiplies_46]
  exact Post_raise h (by decide)
theorem mul_4 (h : R1 σ τ) (hfn : f_CO_fn σ = 4) : Post (f_AR_performOp1C σ) (f_MO_multiplies τ (x_instr σ) (f_CO_s σ) (f_CO_t σ)) := by
  have hfm : x_instr σ &&& (63 : Int32) = 4 := hfn
  have hrd := rdok σ
  unfold f_AR_performOp1C f_MO_multiplies
  rw [hfn, hfm, e_rd]
  simp (decide := true) only [reduceIte, i_AR_performOp1C_c7, i_AR_performOp1C_c6, i_AR_performOp1C_c5, i_AR_performOp1C_c4, i_AR_performOp1C_c3, i_AR_performOp1C_c2, i_AR_performOp1C_c1, i_MO_multiplies_c5, f_MO_multiplies_98, i_MO_multiplies_c4, f_MO_multiplies_159, f_MO_multiplies_142, i_MO_multiplies_c3, i_MO_multiplies_c2, i_MO_multiplies_c1, f_MO_multiplies_51, f_MO_multiplies_46]
  have hh : f_AR_hiLo σ = ((Int32.toInt64 (m_hi τ)) <<< (Int32.toInt64 (32 : Int32) &&& 63)) ||| ((Int32.toInt64 (m_lo τ)) &&& (4294967295 : Int64)) := by
    unfold f_AR_hiLo f_AR_plain
    rw [R_hi h.1, R_lo h.1]
  rw [hh]
  exact Post_both h rfl
theorem mul_5 (h : R1 σ τ) (hfn : f_CO_fn σ = 5) : Post (f_AR_performOp1C σ) (f_MO_multiplies τ (x_instr σ) (f_CO_s σ) (f_CO_t σ)) := by
  have hfm : x_instr σ &&& (63 : Int32) = 5 := hfn
  have hrd := rdok σ
  unfold f_AR_performOp1C f_MO_multiplies
  rw [hfn, hfm, e_rd]
  simp (decide := true) only [reduceIte, i_AR_performOp1C_c7, i_AR_performOp1C_c6, i_AR_performOp1C_c5, i_AR_performOp1C_c4, i_AR_performOp1C_c3, i_AR_performOp1C_c2, i_AR_performOp1C_c1, i_MO_multiplies_c5, f_MO_multiplies_98, i_MO_multiplies_c4, f_MO_multiplies_159, f_MO_multiplies_142, i_MO_multiplies_c3, i_MO_multiplies_c2, i_MO_multiplies_c1, f_MO_multiplies_51, f_MO_multiplies_46]
  have hh : f_AR_hiLo σ = ((Int32.toInt64 (m_hi τ)) <<< (Int32.toInt64 (32 : Int32) &&& 63)) ||| ((Int32.toInt64 (m_lo τ)) &&& (4294967295 : Int64)) := by
    unfold f_AR_hiLo f_AR_plain
    rw [R_hi h.1, R_lo h.1]
  rw [hh]
  exact Post_both h rfl
theorem mul_6 (h : R1 σ τ) (hfn : f_CO_fn σ = 6) : Post (f_AR_performOp1C σ) (f_MO_multiplies τ (x_instr σ) (f_CO_s σ) (f_CO_t σ)) := by
  have hfm : x_instr σ &&& (63 : Int32) = 6 := hfn
  have hrd := rdok σ
  unfold f_AR_performOp1C f_MO_multiplies
  rw [hfn, hfm, e_rd]
  simp (decide := true) only [reduceIte, i_AR_performOp1C_c7, i_AR_performOp1C_c6, i_AR_performOp1C_c5, i_AR_performOp1C_c4, i_AR_performOp1C_c3, i_AR_performOp1C_c2, i_AR_performOp1C_c1, i_MO_multiplies_c5, f_MO_multiplies_98, i_MO_multiplies_c4, f_MO_multiplies_159, f_MO_multiplies_142, i_MO_multiplies_c3, i_MO_multiplies_c2, i_MO_multiplies_c1, f_MO_multiplies_51, f_MO_multiplies_46]
  exact Post_raise h (by decide)
theorem mul_7 (h : R1 σ τ) (hfn : f_CO_fn σ = 7) : Post (f_AR_performOp1C σ) (f_MO_multiplies τ (x_instr σ) (f_CO_s σ) (f_CO_t σ)) := by
  have hfm : x_instr σ &&& (63 : Int32) = 7 := hfn
  have hrd := rdok σ
  unfold f_AR_performOp1C f_MO_multiplies
  rw [hfn, hfm, e_rd]
  simp (decide := true) only [reduceIte, i_AR_performOp1C_c7, i_AR_performOp1C_c6, i_AR_performOp1C_c5, i_AR_performOp1C_c4, i_AR_performOp1C_c3, i_AR_performOp1C_c2, i_AR_performOp1C_c1, i_MO_multiplies_c5, f_MO_multiplies_98, i_MO_multiplies_c4, f_MO_multiplies_159, f_MO_multiplies_142, i_MO_multiplies_c3, i_MO_multiplies_c2, i_MO_multiplies_c1, f_MO_multiplies_51, f_MO_multiplies_46]
  exact Post_raise h (by decide)
theorem mul_8 (h : R1 σ τ) (hfn : f_CO_fn σ = 8) : Post (f_AR_performOp1C σ) (f_MO_multiplies τ (x_instr σ) (f_CO_s σ) (f_CO_t σ)) := by
  have hfm : x_instr σ &&& (63 : Int32) = 8 := hfn
  have hrd := rdok σ
  unfold f_AR_performOp1C f_MO_multiplies
  rw [hfn, hfm, e_rd]
  simp (decide := true) only [reduceIte, i_AR_performOp1C_c7, i_AR_performOp1C_c6, i_AR_performOp1C_c5, i_AR_performOp1C_c4, i_AR_performOp1C_c3, i_AR_performOp1C_c2, i_AR_performOp1C_c1, i_MO_multiplies_c5, f_MO_multiplies_98, i_MO_multiplies_c4, f_MO_multiplies_159, f_MO_multiplies_142, i_MO_multiplies_c3, i_MO_multiplies_c2, i_MO_multiplies_c1, f_MO_multiplies_51, f_MO_multiplies_46]
  exact Post_raise h (by decide)
theorem mul_9 (h : R1 σ τ) (hfn : f_CO_fn σ = 9) : Post (f_AR_performOp1C σ) (f_MO_multiplies τ (x_instr σ) (f_CO_s σ) (f_CO_t σ)) := by
  have hfm : x_instr σ &&& (63 : Int32) = 9 := hfn
  have hrd := rdok σ
  unfold f_AR_performOp1C f_MO_multiplies
  rw [hfn, hfm, e_rd]
  simp (decide := true) only [reduceIte, i_AR_performOp1C_c7, i_AR_performOp1C_c6, i_AR_performOp1C_c5, i_AR_performOp1C_c4, i_AR_performOp1C_c3, i_AR_performOp1C_c2, i_AR_performOp1C_c1, i_MO_multiplies_c5, f_MO_multiplies_98, i_MO_multiplies_c4, f_MO_multiplies_159, f_MO_multiplies_142, i_MO_multiplies_c3, i_MO_multiplies_c2, i_MO_multiplies_c1, f_MO_multiplies_51, f_MO_multiplies_46]
  exact Post_raise h (by decide)
theorem mul_10 (h : R1 σ τ) (hfn : f_CO_fn σ = 10) : Post (f_AR_performOp1C σ) (f_MO_multiplies τ (x_instr σ) (f_CO_s σ) (f_CO_t σ)) := by
  have hfm : x_instr σ &&& (63 : Int32) = 10 := hfn
  have hrd := rdok σ
  unfold f_AR_performOp1C f_MO_multiplies
  rw [hfn, hfm, e_rd]
  simp (decide := true) only [reduceIte, i_AR_performOp1C_c7, i_AR_performOp1C_c6, i_AR_performOp1C_c5, i_AR_performOp1C_c4, i_AR_performOp1C_c3, i_AR_performOp1C_c2, i_AR_performOp1C_c1, i_MO_multiplies_c5, f_MO_multiplies_98, i_MO_multiplies_c4, f_MO_multiplies_159, f_MO_multiplies_142, i_MO_multiplies_c3, i_MO_multiplies_c2, i_MO_multiplies_c1, f_MO_multiplies_51, f_MO_multiplies_46]
  exact Post_raise h (by decide)
theorem mul_11 (h : R1 σ τ) (hfn : f_CO_fn σ = 11) : Post (f_AR_performOp1C σ) (f_MO_multiplies τ (x_instr σ) (f_CO_s σ) (f_CO_t σ)) := by
  have hfm : x_instr σ &&& (63 : Int32) = 11 := hfn
  have hrd := rdok σ
  unfold f_AR_performOp1C f_MO_multiplies
  rw [hfn, hfm, e_rd]
  simp (decide := true) only [reduceIte, i_AR_performOp1C_c7, i_AR_performOp1C_c6, i_AR_performOp1C_c5, i_AR_performOp1C_c4, i_AR_performOp1C_c3, i_AR_performOp1C_c2, i_AR_performOp1C_c1, i_MO_multiplies_c5, f_MO_multiplies_98, i_MO_multiplies_c4, f_MO_multiplies_159, f_MO_multiplies_142, i_MO_multiplies_c3, i_MO_multiplies_c2, i_MO_multiplies_c1, f_MO_multiplies_51, f_MO_multiplies_46]
  exact Post_raise h (by decide)
theorem mul_12 (h : R1 σ τ) (hfn : f_CO_fn σ = 12) : Post (f_AR_performOp1C σ) (f_MO_multiplies τ (x_instr σ) (f_CO_s σ) (f_CO_t σ)) := by
  have hfm : x_instr σ &&& (63 : Int32) = 12 := hfn
  have hrd := rdok σ
  unfold f_AR_performOp1C f_MO_multiplies
  rw [hfn, hfm, e_rd]
  simp (decide := true) only [reduceIte, i_AR_performOp1C_c7, i_AR_performOp1C_c6, i_AR_performOp1C_c5, i_AR_performOp1C_c4, i_AR_performOp1C_c3, i_AR_performOp1C_c2, i_AR_performOp1C_c1, i_MO_multiplies_c5, f_MO_multiplies_98, i_MO_multiplies_c4, f_MO_multiplies_159, f_MO_multiplies_142, i_MO_multiplies_c3, i_MO_multiplies_c2, i_MO_multiplies_c1, f_MO_multiplies_51, f_MO_multiplies_46]
  exact Post_raise h (by decide)
theorem mul_13 (h : R1 σ τ) (hfn : f_CO_fn σ = 13) : Post (f_AR_performOp1C σ) (f_MO_multiplies τ (x_instr σ) (f_CO_s σ) (f_CO_t σ)) := by
  have hfm : x_instr σ &&& (63 : Int32) = 13 := hfn
  have hrd := rdok σ
  unfold f_AR_performOp1C f_MO_multiplies
  rw [hfn, hfm, e_rd]
  simp (decide := true) only [reduceIte, i_AR_performOp1C_c7, i_AR_performOp1C_c6, i_AR_performOp1C_c5, i_AR_performOp1C_c4, i_AR_performOp1C_c3, i_AR_performOp1C_c2, i_AR_performOp1C_c1, i_MO_multiplies_c5, f_MO_multiplies_98, i_MO_multiplies_c4, f_MO_multiplies_159, f_MO_multiplies_142, i_MO_multiplies_c3, i_MO_multiplies_c2, i_MO_multiplies_c1, f_MO_multiplies_51, f_MO_multiplies_46]
  exact Post_raise h (by decide)
theorem mul_14 (h : R1 σ τ) (hfn : f_CO_fn σ = 14) : Post (f_AR_performOp1C σ) (f_MO_multiplies τ (x_instr σ) (f_CO_s σ) (f_CO_t σ)) := by
  have hfm : x_instr σ &&& (63 : Int32) = 14 := hfn
  have hrd := rdok σ
  unfold f_AR_performOp1C f_MO_multiplies
  rw [hfn, hfm, e_rd]
  simp (decide := true) only [reduceIte, i_AR_performOp1C_c7, i_AR_performOp1C_c6, i_AR_performOp1C_c5, i_AR_performOp1C_c4, i_AR_performOp1C_c3, i_AR_performOp1C_c2, i_AR_performOp1C_c1, i_MO_multiplies_c5, f_MO_multiplies_98, i_MO_multiplies_c4, f_MO_multiplies_159, f_MO_multiplies_142, i_MO_multiplies_c3, i_MO_multiplies_c2, i_MO_multiplies_c1, f_MO_multiplies_51, f_MO_multiplies_46]
  exact Post_raise h (by decide)
theorem mul_15 (h : R1 σ τ) (hfn : f_CO_fn σ = 15) : Post (f_AR_performOp1C σ) (f_MO_multiplies τ (x_instr σ) (f_CO_s σ) (f_CO_t σ)) := by
  have hfm : x_instr σ &&& (63 : Int32) = 15 := hfn
  have hrd := rdok σ
  unfold f_AR_performOp1C f_MO_multiplies
  rw [hfn, hfm, e_rd]
  simp (decide := true) only [reduceIte, i_AR_performOp1C_c7, i_AR_performOp1C_c6, i_AR_performOp1C_c5, i_AR_performOp1C_c4, i_AR_performOp1C_c3, i_AR_performOp1C_c2, i_AR_performOp1C_c1, i_MO_multiplies_c5, f_MO_multiplies_98, i_MO_multiplies_c4, f_MO_multiplies_159, f_MO_multiplies_142, i_MO_multiplies_c3, i_MO_multiplies_c2, i_MO_multiplies_c1, f_MO_multiplies_51, f_MO_multiplies_46]
  exact Post_raise h (by decide)
theorem mul_16 (h : R1 σ τ) (hfn : f_CO_fn σ = 16) : Post (f_AR_performOp1C σ) (f_MO_multiplies τ (x_instr σ) (f_CO_s σ) (f_CO_t σ)) := by
  have hfm : x_instr σ &&& (63 : Int32) = 16 := hfn
  have hrd := rdok σ
  unfold f_AR_performOp1C f_MO_multiplies
  rw [hfn, hfm, e_rd]
  simp (decide := true) only [reduceIte, i_AR_performOp1C_c7, i_AR_performOp1C_c6, i_AR_performOp1C_c5, i_AR_performOp1C_c4, i_AR_performOp1C_c3, i_AR_performOp1C_c2, i_AR_performOp1C_c1, i_MO_multiplies_c5, f_MO_multiplies_98, i_MO_multiplies_c4, f_MO_multiplies_159, f_MO_multiplies_142, i_MO_multiplies_c3, i_MO_multiplies_c2, i_MO_multiplies_c1, f_MO_multiplies_51, f_MO_multiplies_46]
  exact Post_raise h (by decide)
theorem mul_17 (h : R1 σ τ) (hfn : f_CO_fn σ = 17) : Post (f_AR_performOp1C σ) (f_MO_multiplies τ (x_instr σ) (f_CO_s σ) (f_CO_t σ)) := by
  have hfm : x_instr σ &&& (63 : Int32) = 17 := hfn
  have hrd := rdok σ
  unfold f_AR_performOp1C f_MO_multiplies
  rw [hfn, hfm, e_rd]
  simp (decide := true) only [reduceIte, i_AR_performOp1C_c7, i_AR_performOp1C_c6, i_AR_performOp1C_c5, i_AR_performOp1C_c4, i_AR_performOp1C_c3, i_AR_performOp1C_c2, i_AR_performOp1C_c1, i_MO_multiplies_c5, f_MO_multiplies_98, i_MO_multiplies_c4, f_MO_multiplies_159, f_MO_multiplies_142, i_MO_multiplies_c3, i_MO_multiplies_c2, i_MO_multiplies_c1, f_MO_multiplies_51, f_MO_multiplies_46]
  exact Post_raise h (by decide)
theorem mul_18 (h : R1 σ τ) (hfn : f_CO_fn σ = 18) : Post (f_AR_performOp1C σ) (f_MO_multiplies τ (x_instr σ) (f_CO_s σ) (f_CO_t σ)) := by
  have hfm : x_instr σ &&& (63 : Int32) = 18 := hfn
  have hrd := rdok σ
  unfold f_AR_performOp1C f_MO_multiplies
  rw [hfn, hfm, e_rd]
  simp (decide := true) only [reduceIte, i_AR_performOp1C_c7, i_AR_performOp1C_c6, i_AR_performOp1C_c5, i_AR_performOp1C_c4, i_AR_performOp1C_c3, i_AR_performOp1C_c2, i_AR_performOp1C_c1, i_MO_multiplies_c5, f_MO_multiplies_98, i_MO_multiplies_c4, f_MO_multiplies_159, f_MO_multiplies_142, i_MO_multiplies_c3, i_MO_multiplies_c2, i_MO_multiplies_c1, f_MO_multiplies_51, f_MO_multiplies_46]
  exact Post_raise h (by decide)
theorem mul_19 (h : R1 σ τ) (hfn : f_CO_fn σ = 19) : Post (f_AR_performOp1C σ) (f_MO_multiplies τ (x_instr σ) (f_CO_s σ) (f_CO_t σ)) := by
  have hfm : x_instr σ &&& (63 : Int32) = 19 := hfn
  have hrd := rdok σ
  unfold f_AR_performOp1C f_MO_multiplies
  rw [hfn, hfm, e_rd]
  simp (decide := true) only [reduceIte, i_AR_performOp1C_c7, i_AR_performOp1C_c6, i_AR_performOp1C_c5, i_AR_performOp1C_c4, i_AR_performOp1C_c3, i_AR_performOp1C_c2, i_AR_performOp1C_c1, i_MO_multiplies_c5, f_MO_multiplies_98, i_MO_multiplies_c4, f_MO_multiplies_159, f_MO_multiplies_142, i_MO_multiplies_c3, i_MO_multiplies_c2, i_MO_multiplies_c1, f_MO_multiplies_51, f_MO_multiplies_46]
  exact Post_raise h (by decide)
theorem mul_20 (h : R1 σ τ) (hfn : f_CO_fn σ = 20) : Post (f_AR_performOp1C σ) (f_MO_multiplies τ (x_instr σ) (f_CO_s σ) (f_CO_t σ)) := by
  have hfm : x_instr σ &&& (63 : Int32) = 20 := hfn
  have hrd := rdok σ
  unfold f_AR_performOp1C f_MO_multiplies
  rw [hfn, hfm, e_rd]
  simp (decide := true) only [reduceIte, i_AR_performOp1C_c7, i_AR_performOp1C_c6, i_AR_performOp1C_c5, i_AR_performOp1C_c4, i_AR_performOp1C_c3, i_AR_performOp1C_c2, i_AR_performOp1C_c1, i_MO_multiplies_c5, f_MO_multiplies_98, i_MO_multiplies_c4, f_MO_multiplies_159, f_MO_multiplies_142, i_MO_multiplies_c3, i_MO_multiplies_c2, i_MO_multiplies_c1, f_MO_multiplies_51, f_MO_multiplies_46]
  exact Post_raise h (by decide)
theorem mul_21 (h : R1 σ τ) (hfn : f_CO_fn σ = 21) : Post (f_AR_performOp1C σ) (f_MO_multiplies τ (x_instr σ) (f_CO_s σ) (f_CO_t σ)) := by
  have hfm : x_instr σ &&& (63 : Int32) = 21 := hfn
  have hrd := rdok σ
  unfold f_AR_performOp1C f_MO_multiplies
  rw [hfn, hfm, e_rd]
  simp (decide := true) only [reduceIte, i_AR_performOp1C_c7, i_AR_performOp1C_c6, i_AR_performOp1C_c5, i_AR_performOp1C_c4, i_AR_performOp1C_c3, i_AR_performOp1C_c2, i_AR_performOp1C_c1, i_MO_multiplies_c5, f_MO_multiplies_98, i_MO_multiplies_c4, f_MO_multiplies_159, f_MO_multiplies_142, i_MO_multiplies_c3, i_MO_multiplies_c2, i_MO_multiplies_c1, f_MO_multiplies_51, f_MO_multiplies_46]
  exact Post_raise h (by decide)
theorem mul_22 (h : R1 σ τ) (hfn : f_CO_fn σ = 22) : Post (f_AR_performOp1C σ) (f_MO_multiplies τ (x_instr σ) (f_CO_s σ) (f_CO_t σ)) := by
  have hfm : x_instr σ &&& (63 : Int32) = 22 := hfn
  have hrd := rdok σ
  unfold f_AR_performOp1C f_MO_multiplies
  rw [hfn, hfm, e_rd]
  simp (decide := true) only [reduceIte, i_AR_performOp1C_c7, i_AR_performOp1C_c6, i_AR_performOp1C_c5, i_AR_performOp1C_c4, i_AR_performOp1C_c3, i_AR_performOp1C_c2, i_AR_performOp1C_c1, i_MO_multiplies_c5, f_MO_multiplies_98, i_MO_multiplies_c4, f_MO_multiplies_159, f_MO_multiplies_142, i_MO_multiplies_c3, i_MO_multiplies_c2, i_MO_multiplies_c1, f_MO_multiplies_51, f_MO_multiplies_46]
  exact Post_raise h (by decide)
theorem mul_23 (h : R1 σ τ) (hfn : f_CO_fn σ = 23) : Post (f_AR_performOp1C σ) (f_MO_multiplies τ (x_instr σ) (f_CO_s σ) (f_CO_t σ)) := by
  have hfm : x_instr σ &&& (63 : Int32) = 23 := hfn
  have hrd := rdok σ
  unfold f_AR_performOp1C f_MO_multiplies
  rw [hfn, hfm, e_rd]
  simp (decide := true) only [reduceIte, i_AR_performOp1C_c7, i_AR_performOp1C_c6, i_AR_performOp1C_c5, i_AR_performOp1C_c4, i_AR_performOp1C_c3, i_AR_performOp1C_c2, i_AR_performOp1C_c1, i_MO_multiplies_c5, f_MO_multiplies_98, i_MO_multiplies_c4, f_MO_multiplies_159, f_MO_multiplies_142, i_MO_multiplies_c3, i_MO_multiplies_c2, i_MO_multiplies_c1, f_MO_multiplies_51, f_MO_multiplies_46]
  exact Post_raise h (by decide)
theorem mul_24 (h : R1 σ τ) (hfn : f_CO_fn σ = 24) : Post (f_AR_performOp1C σ) (f_MO_multiplies τ (x_instr σ) (f_CO_s σ) (f_CO_t σ)) := by
  have hfm : x_instr σ &&& (63 : Int32) = 24 := hfn
  have hrd := rdok σ
  unfold f_AR_performOp1C f_MO_multiplies
  rw [hfn, hfm, e_rd]
  simp (decide := true) only [reduceIte, i_AR_performOp1C_c7, i_AR_performOp1C_c6, i_AR_performOp1C_c5, i_AR_performOp1C_c4, i_AR_performOp1C_c3, i_AR_performOp1C_c2, i_AR_performOp1C_c1, i_MO_multiplies_c5, f_MO_multiplies_98, i_MO_multiplies_c4, f_MO_multiplies_159, f_MO_multiplies_142, i_MO_multiplies_c3, i_MO_multiplies_c2, i_MO_multiplies_c1, f_MO_multiplies_51, f_MO_multiplies_46]
  exact Post_raise h (by decide)
theorem mul_25 (h : R1 σ τ) (hfn : f_CO_fn σ = 25) : Post (f_AR_performOp1C σ) (f_MO_multiplies τ (x_instr σ) (f_CO_s σ) (f_CO_t σ)) := by
  have hfm : x_instr σ &&& (63 : Int32) = 25 := hfn
  have hrd := rdok σ
  unfold f_AR_performOp1C f_MO_multiplies
  rw [hfn, hfm, e_rd]
  simp (decide := true) only [reduceIte, i_AR_performOp1C_c7, i_AR_performOp1C_c6, i_AR_performOp1C_c5, i_AR_performOp1C_c4, i_AR_performOp1C_c3, i_AR_performOp1C_c2, i_AR_performOp1C_c1, i_MO_multiplies_c5, f_MO_multiplies_98, i_MO_multiplies_c4, f_MO_multiplies_159, f_MO_multiplies_142, i_MO_multiplies_c3, i_MO_multiplies_c2, i_MO_multiplies_c1, f_MO_multiplies_51, f_MO_multiplies_46]
  exact Post_raise h (by decide)
theorem mul_26 (h : R1 σ τ) (hfn : f_CO_fn σ = 26) : Post (f_AR_performOp1C σ) (f_MO_multiplies τ (x_instr σ) (f_CO_s σ) (f_CO_t σ)) := by
  have hfm : x_instr σ &&& (63 : Int32) = 26 := hfn
  have hrd := rdok σ
  unfold f_AR_performOp1C f_MO_multiplies
  rw [hfn, hfm, e_rd]
  simp (decide := true) only [reduceIte, i_AR_performOp1C_c7, i_AR_performOp1C_c6, i_AR_performOp1C_c5, i_AR_performOp1C_c4, i_AR_performOp1C_c3, i_AR_performOp1C_c2, i_AR_performOp1C_c1, i_MO_multiplies_c5, f_MO_multiplies_98, i_MO_multiplies_c4, f_MO_multiplies_159, f_MO_multiplies_142, i_MO_multiplies_c3, i_MO_multiplies_c2, i_MO_multiplies_c1, f_MO_multiplies_51, f_MO_multiplies_46]
  exact Post_raise h (by decide)
theorem mul_27 (h : R1 σ τ) (hfn : f_CO_fn σ = 27) : Post (f_AR_performOp1C σ) (f_MO_multiplies τ (x_instr σ) (f_CO_s σ) (f_CO_t σ)) := by
  have hfm : x_instr σ &&& (63 : Int32) = 27 := hfn
  have hrd := rdok σ
  unfold f_AR_performOp1C f_MO_multiplies
  rw [hfn, hfm, e_rd]
  simp (decide := true) only [reduceIte, i_AR_performOp1C_c7, i_AR_performOp1C_c6, i_AR_performOp1C_c5, i_AR_performOp1C_c4, i_AR_performOp1C_c3, i_AR_performOp1C_c2, i_AR_performOp1C_c1, i_MO_multiplies_c5, f_MO_multiplies_98, i_MO_multiplies_c4, f_MO_multiplies_159, f_MO_multiplies_142, i_MO_multiplies_c3, i_MO_multiplies_c2, i_MO_multiplies_c1, f_MO_multiplies_51, f_MO_multiplies_46]
  exact Post_raise h (by decide)
theorem mul_28 (h : R1 σ τ) (hfn : f_CO_fn σ = 28) : Post (f_AR_performOp1C σ) (f_MO_multiplies τ (x_instr σ) (f_CO_s σ) (f_CO_t σ)) := by
  have hfm : x_instr σ &&& (63 : Int32) = 28 := hfn
  have hrd := rdok σ
  unfold f_AR_performOp1C f_MO_multiplies
  rw [hfn, hfm, e_rd]
  simp (decide := true) only [reduceIte, i_AR_performOp1C_c7, i_AR_performOp1C_c6, i_AR_performOp1C_c5, i_AR_performOp1C_c4, i_AR_performOp1C_c3, i_AR_performOp1C_c2, i_AR_performOp1C_c1, i_MO_multiplies_c5, f_MO_multiplies_98, i_MO_multiplies_c4, f_MO_multiplies_159, f_MO_multiplies_142, i_MO_multiplies_c3, i_MO_multiplies_c2, i_MO_multiplies_c1, f_MO_multiplies_51, f_MO_multiplies_46]
  exact Post_raise h (by decide)
theorem mul_29 (h : R1 σ τ) (hfn : f_CO_fn σ = 29) : Post (f_AR_performOp1C σ) (f_MO_multiplies τ (x_instr σ) (f_CO_s σ) (f_CO_t σ)) := by
  have hfm : x_instr σ &&& (63 : Int32) = 29 := hfn
  have hrd := rdok σ
  unfold f_AR_performOp1C f_MO_multiplies
  rw [hfn, hfm, e_rd]
  simp (decide := true) only [reduceIte, i_AR_performOp1C_c7, i_AR_performOp1C_c6, i_AR_performOp1C_c5, i_AR_performOp1C_c4, i_AR_performOp1C_c3, i_AR_performOp1C_c2, i_AR_performOp1C_c1, i_MO_multiplies_c5, f_MO_multiplies_98, i_MO_multiplies_c4, f_MO_multiplies_159, f_MO_multiplies_142, i_MO_multiplies_c3, i_MO_multiplies_c2, i_MO_multiplies_c1, f_MO_multiplies_51, f_MO_multiplies_46]
  exact Post_raise h (by decide)
theorem mul_30 (h : R1 σ τ) (hfn : f_CO_fn σ = 30) : Post (f_AR_performOp1C σ) (f_MO_multiplies τ (x_instr σ) (f_CO_s σ) (f_CO_t σ)) := by
  have hfm : x_instr σ &&& (63 : Int32) = 30 := hfn
  have hrd := rdok σ
  unfold f_AR_performOp1C f_MO_multiplies
  rw [hfn, hfm, e_rd]
  simp (decide := true) only [reduceIte, i_AR_performOp1C_c7, i_AR_performOp1C_c6, i_AR_performOp1C_c5, i_AR_performOp1C_c4, i_AR_performOp1C_c3, i_AR_performOp1C_c2, i_AR_performOp1C_c1, i_MO_multiplies_c5, f_MO_multiplies_98, i_MO_multiplies_c4, f_MO_multiplies_159, f_MO_multiplies_142, i_MO_multiplies_c3, i_MO_multiplies_c2, i_MO_multiplies_c1, f_MO_multiplies_51, f_MO_multiplies_46]
  exact Post_raise h (by decide)
theorem mul_31 (h : R1 σ τ) (hfn : f_CO_fn σ = 31) : Post (f_AR_performOp1C σ) (f_MO_multiplies τ (x_instr σ) (f_CO_s σ) (f_CO_t σ)) := by
  have hfm : x_instr σ &&& (63 : Int32) = 31 := hfn
  have hrd := rdok σ
  unfold f_AR_performOp1C f_MO_multiplies
  rw [hfn, hfm, e_rd]
  simp (decide := true) only [reduceIte, i_AR_performOp1C_c7, i_AR_performOp1C_c6, i_AR_performOp1C_c5, i_AR_performOp1C_c4, i_AR_performOp1C_c3, i_AR_performOp1C_c2, i_AR_performOp1C_c1, i_MO_multiplies_c5, f_MO_multiplies_98, i_MO_multiplies_c4, f_MO_multiplies_159, f_MO_multiplies_142, i_MO_multiplies_c3, i_MO_multiplies_c2, i_MO_multiplies_c1, f_MO_multiplies_51, f_MO_multiplies_46]
  exact Post_raise h (by decide)
theorem mul_32 (h : R1 σ τ) (hfn : f_CO_fn σ = 32) : Post (f_AR_performOp1C σ) (f_MO_multiplies τ (x_instr σ) (f_CO_s σ) (f_CO_t σ)) := by
  have hfm : x_instr σ &&& (63 : Int32) = 32 := hfn
  have hrd := rdok σ
  unfold f_AR_performOp1C f_MO_multiplies
  rw [hfn, hfm, e_rd]
  simp (decide := true) only [reduceIte, i_AR_performOp1C_c7, i_AR_performOp1C_c6, i_AR_performOp1C_c5, i_AR_performOp1C_c4, i_AR_performOp1C_c3, i_AR_performOp1C_c2, i_AR_performOp1C_c1, i_MO_multiplies_c5, f_MO_multiplies_98, i_MO_multiplies_c4, f_MO_multiplies_159, f_MO_multiplies_142, i_MO_multiplies_c3, i_MO_multiplies_c2, i_MO_multiplies_c1, f_MO_multiplies_51, f_MO_multiplies_46]
  exact Post_put h hrd (zeros_ag _ _ _)
theorem mul_33 (h : R1 σ τ) (hfn : f_CO_fn σ = 33) : Post (f_AR_performOp1C σ) (f_MO_multiplies τ (x_instr σ) (f_CO_s σ) (f_CO_t σ)) := by
  have hfm : x_instr σ &&& (63 : Int32) = 33 := hfn
  have hrd := rdok σ
  unfold f_AR_performOp1C f_MO_multiplies
  rw [hfn, hfm, e_rd]
  simp (decide := true) only [reduceIte, i_AR_performOp1C_c7, i_AR_performOp1C_c6, i_AR_performOp1C_c5, i_AR_performOp1C_c4, i_AR_performOp1C_c3, i_AR_performOp1C_c2, i_AR_performOp1C_c1, i_MO_multiplies_c5, f_MO_multiplies_98, i_MO_multiplies_c4, f_MO_multiplies_159, f_MO_multiplies_142, i_MO_multiplies_c3, i_MO_multiplies_c2, i_MO_multiplies_c1, f_MO_multiplies_51, f_MO_multiplies_46]
  exact Post_put h hrd (zeros_ag _ _ _)
theorem mul_34 (h : R1 σ τ) (hfn : f_CO_fn σ = 34) : Post (f_AR_performOp1C σ) (f_MO_multiplies τ (x_instr σ) (f_CO_s σ) (f_CO_t σ)) := by
  have hfm : x_instr σ &&& (63 : Int32) = 34 := hfn
  have hrd := rdok σ
  unfold f_AR_performOp1C f_MO_multiplies
  rw [hfn, hfm, e_rd]
  simp (decide := true) only [reduceIte, i_AR_performOp1C_c7, i_AR_performOp1C_c6, i_AR_performOp1C_c5, i_AR_performOp1C_c4, i_AR_performOp1C_c3, i_AR_performOp1C_c2, i_AR_performOp1C_c1, i_MO_multiplies_c5, f_MO_multiplies_98, i_MO_multiplies_c4, f_MO_multiplies_159, f_MO_multiplies_142, i_MO_multiplies_c3, i_MO_multiplies_c2, i_MO_multiplies_c1, f_MO_multiplies_51, f_MO_multiplies_46]
  exact Post_raise h (by decide)
theorem mul_35 (h : R1 σ τ) (hfn : f_CO_fn σ = 35) : Post (f_AR_performOp1C σ) (f_MO_multiplies τ (x_instr σ) (f_CO_s σ) (f_CO_t σ)) := by
  have hfm : x_instr σ &&& (63 : Int32) = 35 := hfn
  have hrd := rdok σ
  unfold f_AR_performOp1C f_MO_multiplies
  rw [hfn, hfm, e_rd]
  simp (decide := true) only [reduceIte, i_AR_performOp1C_c7, i_AR_performOp1C_c6, i_AR_performOp1C_c5, i_AR_performOp1C_c4, i_AR_performOp1C_c3, i_AR_performOp1C_c2, i_AR_performOp1C_c1, i_MO_multiplies_c5, f_MO_multiplies_98, i_MO_multiplies_c4, f_MO_multiplies_159, f_MO_multiplies_142, i_MO_multiplies_c3, i_MO_multiplies_c2, i_MO_multiplies_c1, f_MO_multiplies_51, f_MO_multiplies_46]
  exact Post_raise h (by decide)
theorem mul_36 (h : R1 σ τ) (hfn : f_CO_fn σ = 36) : Post (f_AR_performOp1C σ) (f_MO_multiplies τ (x_instr σ) (f_CO_s σ) (f_CO_t σ)) := by
  have hfm : x_instr σ &&& (63 : Int32) = 36 := hfn
  have hrd := rdok σ
  unfold f_AR_performOp1C f_MO_multiplies
  rw [hfn, hfm, e_rd]
  simp (decide := true) only [reduceIte, i_AR_performOp1C_c7, i_AR_performOp1C_c6, i_AR_performOp1C_c5, i_AR_performOp1C_c4, i_AR_performOp1C_c3, i_AR_performOp1C_c2, i_AR_performOp1C_c1, i_MO_multiplies_c5, f_MO_multiplies_98, i_MO_multiplies_c4, f_MO_multiplies_159, f_MO_multiplies_142, i_MO_multiplies_c3, i_MO_multiplies_c2, i_MO_multiplies_c1, f_MO_multiplies_51, f_MO_multiplies_46]
  exact Post_raise h (by decide)
theorem mul_37 (h : R1 σ τ) (hfn : f_CO_fn σ = 37) : Post (f_AR_performOp1C σ) (f_MO_multiplies τ (x_instr σ) (f_CO_s σ) (f_CO_t σ)) := by
  have hfm : x_instr σ &&& (63 : Int32) = 37 := hfn
  have hrd := rdok σ
  unfold f_AR_performOp1C f_MO_multiplies
  rw [hfn, hfm, e_rd]
  simp (decide := true) only [reduceIte, i_AR_performOp1C_c7, i_AR_performOp1C_c6, i_AR_performOp1C_c5, i_AR_performOp1C_c4, i_AR_performOp1C_c3, i_AR_performOp1C_c2, i_AR_performOp1C_c1, i_MO_multiplies_c5, f_MO_multiplies_98, i_MO_multiplies_c4, f_MO_multiplies_159, f_MO_multiplies_142, i_MO_multiplies_c3, i_MO_multiplies_c2, i_MO_multiplies_c1, f_MO_multiplies_51, f_MO_multiplies_46]
  exact Post_raise h (by decide)
theorem mul_38 (h : R1 σ τ) (hfn : f_CO_fn σ = 38) : Post (f_AR_performOp1C σ) (f_MO_multiplies τ (x_instr σ) (f_CO_s σ) (f_CO_t σ)) := by
  have hfm : x_instr σ &&& (63 : Int32) = 38 := hfn
  have hrd := rdok σ
  unfold f_AR_performOp1C f_MO_multiplies
  rw [hfn, hfm, e_rd]
  simp (decide := true) only [reduceIte, i_AR_performOp1C_c7, i_AR_performOp1C_c6, i_AR_performOp1C_c5, i_AR_performOp1C_c4, i_AR_performOp1C_c3, i_AR_performOp1C_c2, i_AR_performOp1C_c1, i_MO_multiplies_c5, f_MO_multiplies_98, i_MO_multiplies_c4, f_MO_multiplies_159, f_MO_multiplies_142, i_MO_multiplies_c3, i_MO_multiplies_c2, i_MO_multiplies_c1, f_MO_multiplies_51, f_MO_multiplies_46]
  exact Post_raise h (by decide)
theorem mul_39 (h : R1 σ τ) (hfn : f_CO_fn σ = 39) : Post (f_AR_performOp1C σ) (f_MO_multiplies τ (x_instr σ) (f_CO_s σ) (f_CO_t σ)) := by
  have hfm : x_instr σ &&& (63 : Int32) = 39 := hfn
  have hrd := rdok σ
  unfold f_AR_performOp1C f_MO_multiplies
  rw [hfn, hfm, e_rd]
  simp (decide := true) only [reduceIte, i_AR_performOp1C_c7, i_AR_performOp1C_c6, i_AR_performOp1C_c5, i_AR_performOp1C_c4, i_AR_performOp1C_c3, i_AR_performOp1C_c2, i_AR_performOp1C_c1, i_MO_multiplies_c5, f_MO_multiplies_98, i_MO_multiplies_c4, f_MO_multiplies_159, f_MO_multiplies_142, i_MO_multiplies_c3, i_MO_multiplies_c2, i_MO_multiplies_c1, f_MO_multiplies_51, f_MO_multiplies_46]
  exact Post_raise h (by decide)
theorem mul_40 (h : R1 σ τ) (hfn : f_CO_fn σ = 40) : Post (f_AR_performOp1C σ) (f_MO_multiplies τ (x_instr σ) (f_CO_s σ) (f_CO_t σ)) := by
  have hfm : x_instr σ &&& (63 : Int32) = 40 := hfn
  have hrd := rdok σ
  unfold f_AR_performOp1C f_MO_multiplies
  rw [hfn, hfm, e_rd]
  simp (decide := true) only [reduceIte, i_AR_performOp1C_c7, i_AR_performOp1C_c6, i_AR_performOp1C_c5, i_AR_performOp1C_c4, i_AR_performOp1C_c3, i_AR_performOp1C_c2, i_AR_performOp1C_c1, i_MO_multiplies_c5, f_MO_multiplies_98, i_MO_multiplies_c4, f_MO_multiplies_159, f_MO_multiplies_142, i_MO_multiplies_c3, i_MO_multiplies_c2, i_MO_multiplies_c1, f_MO_multiplies_51, f_MO_multiplies_46]
  exact Post_raise h (by decide)
theorem mul_41 (h : R1 σ τ) (hfn : f_CO_fn σ = 41) : Post (f_AR_performOp1C σ) (f_MO_multiplies τ (x_instr σ) (f_CO_s σ) (f_CO_t σ)) := by
  have hfm : x_instr σ &&& (63 : Int32) = 41 := hfn
  have hrd := rdok σ
  unfold f_AR_performOp1C f_MO_multiplies
  rw [hfn, hfm, e_rd]
  simp (decide := true) only [reduceIte, i_AR_performOp1C_c7, i_AR_performOp1C_c6, i_AR_performOp1C_c5, i_AR_performOp1C_c4, i_AR_performOp1C_c3, i_AR_performOp1C_c2, i_AR_performOp1C_c1, i_MO_multiplies_c5, f_MO_multiplies_98, i_MO_multiplies_c4, f_MO_multiplies_159, f_MO_multiplies_142, i_MO_multiplies_c3, i_MO_multiplies_c2, i_MO_multiplies_c1, f_MO_multiplies_51, f_MO_multiplies_46]
  exact Post_raise h (by decide)
theorem mul_42 (h : R1 σ τ) (hfn : f_CO_fn σ = 42) : Post (f_AR_performOp1C σ) (f_MO_multiplies τ (x_instr σ) (f_CO_s σ) (f_CO_t σ)) := by
  have hfm : x_instr σ &&& (63 : Int32) = 42 := hfn
  have hrd := rdok σ
  unfold f_AR_performOp1C f_MO_multiplies
  rw [hfn, hfm, e_rd]
  simp (decide := true) only [reduceIte, i_AR_performOp1C_c7, i_AR_performOp1C_c6, i_AR_performOp1C_c5, i_AR_performOp1C_c4, i_AR_performOp1C_c3, i_AR_performOp1C_c2, i_AR_performOp1C_c1, i_MO_multiplies_c5, f_MO_multiplies_98, i_MO_multiplies_c4, f_MO_multiplies_159, f_MO_multiplies_142, i_MO_multiplies_c3, i_MO_multiplies_c2, i_MO_multiplies_c1, f_MO_multiplies_51, f_MO_multiplies_46]
  exact Post_raise h (by decide)
theorem mul_43 (h : R1 σ τ) (hfn : f_CO_fn σ = 43) : Post (f_AR_performOp1C σ) (f_MO_multiplies τ (x_instr σ) (f_CO_s σ) (f_CO_t σ)) := by
  have hfm : x_instr σ &&& (63 : Int32) = 43 := hfn
  have hrd := rdok σ
  unfold f_AR_performOp1C f_MO_multiplies
  rw [hfn, hfm, e_rd]
  simp (decide := true) only [reduceIte, i_AR_performOp1C_c7, i_AR_performOp1C_c6, i_AR_performOp1C_c5, i_AR_performOp1C_c4, i_AR_performOp1C_c3, i_AR_performOp1C_c2, i_AR_performOp1C_c1, i_MO_multiplies_c5, f_MO_multiplies_98, i_MO_multiplies_c4, f_MO_multiplies_159, f_MO_multiplies_142, i_MO_multiplies_c3, i_MO_multiplies_c2, i_MO_multiplies_c1, f_MO_multiplies_51, f_MO_multiplies_46]
  exact Post_raise h (by decide)
theorem mul_44 (h : R1 σ τ) (hfn : f_CO_fn σ = 44) : Post (f_AR_performOp1C σ) (f_MO_multiplies τ (x_instr σ) (f_CO_s σ) (f_CO_t σ)) := by
  have hfm : x_instr σ &&& (63 : Int32) = 44 := hfn
  have hrd := rdok σ
  unfold f_AR_performOp1C f_MO_multiplies
  rw [hfn, hfm, e_rd]
  simp (decide := true) only [reduceIte, i_AR_performOp1C_c7, i_AR_performOp1C_c6, i_AR_performOp1C_c5, i_AR_performOp1C_c4, i_AR_performOp1C_c3, i_AR_performOp1C_c2, i_AR_performOp1C_c1, i_MO_multiplies_c5, f_MO_multiplies_98, i_MO_multiplies_c4, f_MO_multiplies_159, f_MO_multiplies_142, i_MO_multiplies_c3, i_MO_multiplies_c2, i_MO_multiplies_c1, f_MO_multiplies_51, f_MO_multiplies_46]
  exact Post_raise h (by decide)
theorem mul_45 (h : R1 σ τ) (hfn : f_CO_fn σ = 45) : Post (f_AR_performOp1C σ) (f_MO_multiplies τ (x_instr σ) (f_CO_s σ) (f_CO_t σ)) := by
  have hfm : x_instr σ &&& (63 : Int32) = 45 := hfn
  have hrd := rdok σ
  unfold f_AR_performOp1C f_MO_multiplies
  rw [hfn, hfm, e_rd]
  simp (decide := true) only [reduceIte, i_AR_performOp1C_c7, i_AR_performOp1C_c6, i_AR_performOp1C_c5, i_AR_performOp1C_c4, i_AR_performOp1C_c3, i_AR_performOp1C_c2, i_AR_performOp1C_c1, i_MO_multiplies_c5, f_MO_multiplies_98, i_MO_multiplies_c4, f_MO_multiplies_159, f_MO_multiplies_142, i_MO_multiplies_c3, i_MO_multiplies_c2, i_MO_multiplies_c1, f_MO_multiplies_51, f_MO_multiplies_46]
  exact Post_raise h (by decide)
theorem mul_46 (h : R1 σ τ) (hfn : f_CO_fn σ = 46) : Post (f_AR_performOp1C σ) (f_MO_multiplies τ (x_instr σ) (f_CO_s σ) (f_CO_t σ)) := by
  have hfm : x_instr σ &&& (63 : Int32) = 46 := hfn
  have hrd := rdok σ
  unfold f_AR_performOp1C f_MO_multiplies
  rw [hfn, hfm, e_rd]
  simp (decide := true) only [reduceIte, i_AR_performOp1C_c7, i_AR_performOp1C_c6, i_AR_performOp1C_c5, i_AR_performOp1C_c4, i_AR_performOp1C_c3, i_AR_performOp1C_c2, i_AR_performOp1C_c1, i_MO_multiplies_c5, f_MO_multiplies_98, i_MO_multiplies_c4, f_MO_multiplies_159, f_MO_multiplies_142, i_MO_multiplies_c3, i_MO_multiplies_c2, i_MO_multiplies_c1, f_MO_multiplies_51, f_MO_multiplies_46]
  exact Post_raise h (by decide)
theorem mul_47 (h : R1 σ τ) (hfn : f_CO_fn σ = 47) : Post (f_AR_performOp1C σ) (f_MO_multiplies τ (x_instr σ) (f_CO_s σ) (f_CO_t σ)) := by
  have hfm : x_instr σ &&& (63 : Int32) = 47 := hfn
  have hrd := rdok σ
  unfold f_AR_performOp1C f_MO_multiplies
  rw [hfn, hfm, e_rd]
  simp (decide := true) only [reduceIte, i_AR_performOp1C_c7, i_AR_performOp1C_c6, i_AR_performOp1C_c5, i_AR_performOp1C_c4, i_AR_performOp1C_c3, i_AR_performOp1C_c2, i_AR_performOp1C_c1, i_MO_multiplies_c5, f_MO_multiplies_98, i_MO_multiplies_c4, f_MO_multiplies_159, f_MO_multiplies_142, i_MO_multiplies_c3, i_MO_multiplies_c2, i_MO_multiplies_c1, f_MO_multiplies_51, f_MO_multiplies_46]
  exact Post_raise h (by decide)
theorem mul_48 (h : R1 σ τ) (hfn : f_CO_fn σ = 48) : Post (f_AR_performOp1C σ) (f_MO_multiplies τ (x_instr σ) (f_CO_s σ) (f_CO_t σ)) := by
  have hfm : x_instr σ &&& (63 : Int32) = 48 := hfn
  have hrd := rdok σ
  unfold f_AR_performOp1C f_MO_multiplies
  rw [hfn, hfm, e_rd]
  simp (decide := true) only [reduceIte, i_AR_performOp1C_c7, i_AR_performOp1C_c6, i_AR_performOp1C_c5, i_AR_performOp1C_c4, i_AR_performOp1C_c3, i_AR_performOp1C_c2, i_AR_performOp1C_c1, i_MO_multiplies_c5, f_MO_multiplies_98, i_MO_multiplies_c4, f_MO_multiplies_159, f_MO_multiplies_142, i_MO_multiplies_c3, i_MO_multiplies_c2, i_MO_multiplies_c1, f_MO_multiplies_51, f_MO_multiplies_46]
  exact Post_raise h (by decide)
theorem mul_49 (h : R1 σ τ) (hfn : f_CO_fn σ = 49) : Post (f_AR_performOp1C σ) (f_MO_multiplies τ (x_instr σ) (f_CO_s σ) (f_CO_t σ)) := by
  have hfm : x_instr σ &&& (63 : Int32) = 49 := hfn
  have hrd := rdok σ
  unfold f_AR_performOp1C f_MO_multiplies
  rw [hfn, hfm, e_rd]
  simp (decide := true) only [reduceIte, i_AR_performOp1C_c7, i_AR_performOp1C_c6, i_AR_performOp1C_c5, i_AR_performOp1C_c4, i_AR_performOp1C_c3, i_AR_performOp1C_c2, i_AR_performOp1C_c1, i_MO_multiplies_c5, f_MO_multiplies_98, i_MO_multiplies_c4, f_MO_multiplies_159, f_MO_multiplies_142, i_MO_multiplies_c3, i_MO_multiplies_c2, i_MO_multiplies_c1, f_MO_multiplies_51, f_MO_multiplies_46]
  exact Post_raise h (by decide)
theorem mul_50 (h : R1 σ τ) (hfn : f_CO_fn σ = 50) : Post (f_AR_performOp1C σ) (f_MO_multiplies τ (x_instr σ) (f_CO_s σ) (f_CO_t σ)) := by
  have hfm : x_instr σ &&& (63 : Int32) = 50 := hfn
  have hrd := rdok σ
  unfold f_AR_performOp1C f_MO_multiplies
  rw [hfn, hfm, e_rd]
  simp (decide := true) only [reduceIte, i_AR_performOp1C_c7, i_AR_performOp1C_c6, i_AR_performOp1C_c5, i_AR_performOp1C_c4, i_AR_performOp1C_c3, i_AR_performOp1C_c2, i_AR_performOp1C_c1, i_MO_multiplies_c5, f_MO_multiplies_98, i_MO_multiplies_c4, f_MO_multiplies_159, f_MO_multiplies_142, i_MO_multiplies_c3, i_MO_multiplies_c2, i_MO_multiplies_c1, f_MO_multiplies_51, f_MO_multiplies_46]
  exact Post_raise h (by decide)
theorem mul_51 (h : R1 σ τ) (hfn : f_CO_fn σ = 51) : Post (f_AR_performOp1C σ) (f_MO_multiplies τ (x_instr σ) (f_CO_s σ) (f_CO_t σ)) := by
  have hfm : x_instr σ &&& (63 : Int32) = 51 := hfn
  have hrd := rdok σ
  unfold f_AR_performOp1C f_MO_multiplies
  rw [hfn, hfm, e_rd]
  simp (decide := true) only [reduceIte, i_AR_performOp1C_c7, i_AR_performOp1C_c6, i_AR_performOp1C_c5, i_AR_performOp1C_c4, i_AR_performOp1C_c3, i_AR_performOp1C_c2, i_AR_performOp1C_c1, i_MO_multiplies_c5, f_MO_multiplies_98, i_MO_multiplies_c4, f_MO_multiplies_159, f_MO_multiplies_142, i_MO_multiplies_c3, i_MO_multiplies_c2, i_MO_multiplies_c1, f_MO_multiplies_51, f_MO_multiplies_46]
  exact Post_raise h (by decide)
theorem mul_52 (h : R1 σ τ) (hfn : f_CO_fn σ = 52) : Post (f_AR_performOp1C σ) (f_MO_multiplies τ (x_instr σ) (f_CO_s σ) (f_CO_t σ)) := by
  have hfm : x_instr σ &&& (63 : Int32) = 52 := hfn
  have hrd := rdok σ
  unfold f_AR_performOp1C f_MO_multiplies
  rw [hfn, hfm, e_rd]
  simp (decide := true) only [reduceIte, i_AR_performOp1C_c7, i_AR_performOp1C_c6, i_AR_performOp1C_c5, i_AR_performOp1C_c4, i_AR_performOp1C_c3, i_AR_performOp1C_c2, i_AR_performOp1C_c1, i_MO_multiplies_c5, f_MO_multiplies_98, i_MO_multiplies_c4, f_MO_multiplies_159, f_MO_multiplies_142, i_MO_multiplies_c3, i_MO_multiplies_c2, i_MO_multiplies_c1, f_MO_multiplies_51, f_MO_multiplies_46]
  exact Post_raise h (by decide)
theorem mul_53 (h : R1 σ τ) (hfn : f_CO_fn σ = 53) : Post (f_AR_performOp1C σ) (f_MO_multiplies τ (x_instr σ) (f_CO_s σ) (f_CO_t σ)) := by
  have hfm : x_instr σ &&& (63 : Int32) = 53 := hfn
  have hrd := rdok σ
  unfold f_AR_performOp1C f_MO_multiplies
  rw [hfn, hfm, e_rd]
  simp (decide := true) only [reduceIte, i_AR_performOp1C_c7, i_AR_performOp1C_c6, i_AR_performOp1C_c5, i_AR_performOp1C_c4, i_AR_performOp1C_c3, i_AR_performOp1C_c2, i_AR_performOp1C_c1, i_MO_multiplies_c5, f_MO_multiplies_98, i_MO_multiplies_c4, f_MO_multiplies_159, f_MO_multiplies_142, i_MO_multiplies_c3, i_MO_multiplies_c2, i_MO_multiplies_c1, f_MO_multiplies_51, f_MO_multiplies_46]
  exact Post_raise h (by decide)
theorem mul_54 (h : R1 σ τ) (hfn : f_CO_fn σ = 54) : Post (f_AR_performOp1C σ) (f_MO_multiplies τ (x_instr σ) (f_CO_s σ) (f_CO_t σ)) := by
  have hfm : x_instr σ &&& (63 : Int32) = 54 := hfn
  have hrd := rdok σ
  unfold f_AR_performOp1C f_MO_multiplies
  rw [hfn, hfm, e_rd]
  simp (decide := true) only [reduceIte, i_AR_performOp1C_c7, i_AR_performOp1C_c6, i_AR_performOp1C_c5, i_AR_performOp1C_c4, i_AR_performOp1C_c3, i_AR_performOp1C_c2, i_AR_performOp1C_c1, i_MO_multiplies_c5, f_MO_multiplies_98, i_MO_multiplies_c4, f_MO_multiplies_159, f_MO_multiplies_142, i_MO_multiplies_c3, i_MO_multiplies_c2, i_MO_multiplies_c1, f_MO_multiplies_51, f_MO_multiplies_46]
  exact Post_raise h (by decide)
theorem mul_55 (h : R1 σ τ) (hfn : f_CO_fn σ = 55) : Post (f_AR_performOp1C σ) (f_MO_multiplies τ (x_instr σ) (f_CO_s σ) (f_CO_t σ)) := by
  have hfm : x_instr σ &&& (63 : Int32) = 55 := hfn
  have hrd := rdok σ
  unfold f_AR_performOp1C f_MO_multiplies
  rw [hfn, hfm, e_rd]
  simp (decide := true) only [reduceIte, i_AR_performOp1C_c7, i_AR_performOp1C_c6, i_AR_performOp1C_c5, i_AR_performOp1C_c4, i_AR_performOp1C_c3, i_AR_performOp1C_c2, i_AR_performOp1C_c1, i_MO_multiplies_c5, f_MO_multiplies_98, i_MO_multiplies_c4, f_MO_multiplies_159, f_MO_multiplies_142, i_MO_multiplies_c3, i_MO_multiplies_c2, i_MO_multiplies_c1, f_MO_multiplies_51, f_MO_multiplies_46]
  exact Post_raise h (by decide)
theorem mul_56 (h : R1 σ τ) (hfn : f_CO_fn σ = 56) : Post (f_AR_performOp1C σ) (f_MO_multiplies τ (x_instr σ) (f_CO_s σ) (f_CO_t σ)) := by
  have hfm : x_instr σ &&& (63 : Int32) = 56 := hfn
  have hrd := rdok σ
  unfold f_AR_performOp1C f_MO_multiplies
  rw [hfn, hfm, e_rd]
  simp (decide := true) only [reduceIte, i_AR_performOp1C_c7, i_AR_performOp1C_c6, i_AR_performOp1C_c5, i_AR_performOp1C_c4, i_AR_performOp1C_c3, i_AR_performOp1C_c2, i_AR_performOp1C_c1, i_MO_multiplies_c5, f_MO_multiplies_98, i_MO_multiplies_c4, f_MO_multiplies_159, f_MO_multiplies_142, i_MO_multiplies_c3, i_MO_multiplies_c2, i_MO_multiplies_c1, f_MO_multiplies_51, f_MO_multiplies_46]
  exact Post_raise h (by decide)
theorem mul_57 (h : R1 σ τ) (hfn : f_CO_fn σ = 57) : Post (f_AR_performOp1C σ) (f_MO_multiplies τ (x_instr σ) (f_CO_s σ) (f_CO_t σ)) := by
  have hfm : x_instr σ &&& (63 : Int32) = 57 := hfn
  have hrd := rdok σ
  unfold f_AR_performOp1C f_MO_multiplies
  rw [hfn, hfm, e_rd]
  simp (decide := true) only [reduceIte, i_AR_performOp1C_c7, i_AR_performOp1C_c6, i_AR_performOp1C_c5, i_AR_performOp1C_c4, i_AR_performOp1C_c3, i_AR_performOp1C_c2, i_AR_performOp1C_c1, i_MO_multiplies_c5, f_MO_multiplies_98, i_MO_multiplies_c4, f_MO_multiplies_159, f_MO_multiplies_142, i_MO_multiplies_c3, i_MO_multiplies_c2, i_MO_multiplies_c1, f_MO_multiplies_51, f_MO_multiplies_46]
  exact Post_raise h (by decide)
theorem mul_58 (h : R1 σ τ) (hfn : f_CO_fn σ = 58) : Post (f_AR_performOp1C σ) (f_MO_multiplies τ (x_instr σ) (f_CO_s σ) (f_CO_t σ)) := by
  have hfm : x_instr σ &&& (63 : Int32) = 58 := hfn
  have hrd := rdok σ
  unfold f_AR_performOp1C f_MO_multiplies
  rw [hfn, hfm, e_rd]
  simp (decide := true) only [reduceIte, i_AR_performOp1C_c7, i_AR_performOp1C_c6, i_AR_performOp1C_c5, i_AR_performOp1C_c4, i_AR_performOp1C_c3, i_AR_performOp1C_c2, i_AR_performOp1C_c1, i_MO_multiplies_c5, f_MO_multiplies_98, i_MO_multiplies_c4, f_MO_multiplies_159, f_MO_multiplies_142, i_MO_multiplies_c3, i_MO_multiplies_c2, i_MO_multiplies_c1, f_MO_multiplies_51, f_MO_multiplies_46]
  exact Post_raise h (by decide)
theorem mul_59 (h : R1 σ τ) (hfn : f_CO_fn σ = 59) : Post (f_AR_performOp1C σ) (f_MO_multiplies τ (x_instr σ) (f_CO_s σ) (f_CO_t σ)) := by
  have hfm : x_instr σ &&& (63 : Int32) = 59 := hfn
  have hrd := rdok σ
  unfold f_AR_performOp1C f_MO_multiplies
  rw [hfn, hfm, e_rd]
  simp (decide := true) only [reduceIte, i_AR_performOp1C_c7, i_AR_performOp1C_c6, i_AR_performOp1C_c5, i_AR_performOp1C_c4, i_AR_performOp1C_c3, i_AR_performOp1C_c2, i_AR_performOp1C_c1, i_MO_multiplies_c5, f_MO_multiplies_98, i_MO_multiplies_c4, f_MO_multiplies_159, f_MO_multiplies_142, i_MO_multiplies_c3, i_MO_multiplies_c2, i_MO_multiplies_c1, f_MO_multiplies_51, f_MO_multiplies_46]
  exact Post_raise h (by decide)
theorem mul_60 (h : R1 σ τ) (hfn : f_CO_fn σ = 60) : Post (f_AR_performOp1C σ) (f_MO_multiplies τ (x_instr σ) (f_CO_s σ) (f_CO_t σ)) := by
  have hfm : x_instr σ &&& (63 : Int32) = 60 := hfn
  have hrd := rdok σ
  unfold f_AR_performOp1C f_MO_multiplies
  rw [hfn, hfm, e_rd]
  simp (decide := true) only [reduceIte, i_AR_performOp1C_c7, i_AR_performOp1C_c6, i_AR_performOp1C_c5, i_AR_performOp1C_c4, i_AR_performOp1C_c3, i_AR_performOp1C_c2, i_AR_performOp1C_c1, i_MO_multiplies_c5, f_MO_multiplies_98, i_MO_multiplies_c4, f_MO_multiplies_159, f_MO_multiplies_142, i_MO_multiplies_c3, i_MO_multiplies_c2, i_MO_multiplies_c1, f_MO_multiplies_51, f_MO_multiplies_46]
  exact Post_raise h (by decide)
theorem mul_61 (h : R1 σ τ) (hfn : f_CO_fn σ = 61) : Post (f_AR_performOp1C σ) (f_MO_multiplies τ (x_instr σ) (f_CO_s σ) (f_CO_t σ)) := by
  have hfm : x_instr σ &&& (63 : Int32) = 61 := hfn
  have hrd := rdok σ
  unfold f_AR_performOp1C f_MO_multiplies
  rw [hfn, hfm, e_rd]
  simp (decide := true) only [reduceIte, i_AR_performOp1C_c7, i_AR_performOp1C_c6, i_AR_performOp1C_c5, i_AR_performOp1C_c4, i_AR_performOp1C_c3, i_AR_performOp1C_c2, i_AR_performOp1C_c1, i_MO_multiplies_c5, f_MO_multiplies_98, i_MO_multiplies_c4, f_MO_multiplies_159, f_MO_multiplies_142, i_MO_multiplies_c3, i_MO_multiplies_c2, i_MO_multiplies_c1, f_MO_multiplies_51, f_MO_multiplies_46]
  exact Post_raise h (by decide)
theorem mul_62 (h : R1 σ τ) (hfn : f_CO_fn σ = 62) : Post (f_AR_performOp1C σ) (f_MO_multiplies τ (x_instr σ) (f_CO_s σ) (f_CO_t σ)) := by
  have hfm : x_instr σ &&& (63 : Int32) = 62 := hfn
  have hrd := rdok σ
  unfold f_AR_performOp1C f_MO_multiplies
  rw [hfn, hfm, e_rd]
  simp (decide := true) only [reduceIte, i_AR_performOp1C_c7, i_AR_performOp1C_c6, i_AR_performOp1C_c5, i_AR_performOp1C_c4, i_AR_performOp1C_c3, i_AR_performOp1C_c2, i_AR_performOp1C_c1, i_MO_multiplies_c5, f_MO_multiplies_98, i_MO_multiplies_c4, f_MO_multiplies_159, f_MO_multiplies_142, i_MO_multiplies_c3, i_MO_multiplies_c2, i_MO_multiplies_c1, f_MO_multiplies_51, f_MO_multiplies_46]
  exact Post_raise h (by decide)
theorem mul_63 (h : R1 σ τ) (hfn : f_CO_fn σ = 63) : Post (f_AR_performOp1C σ) (f_MO_multiplies τ (x_instr σ) (f_CO_s σ) (f_CO_t σ)) := by
  have hfm : x_instr σ &&& (63 : Int32) = 63 := hfn
  have hrd := rdok σ
  unfold f_AR_performOp1C f_MO_multiplies
  rw [hfn, hfm, e_rd]
  simp (decide := true) only [reduceIte, i_AR_performOp1C_c7, i_AR_performOp1C_c6, i_AR_performOp1C_c5, i_AR_performOp1C_c4, i_AR_performOp1C_c3, i_AR_performOp1C_c2, i_AR_performOp1C_c1, i_MO_multiplies_c5, f_MO_multiplies_98, i_MO_multiplies_c4, f_MO_multiplies_159, f_MO_multiplies_142, i_MO_multiplies_c3, i_MO_multiplies_c2, i_MO_multiplies_c1, f_MO_multiplies_51, f_MO_multiplies_46]
  exact Post_raise h (by decide)
theorem mul_ag (h : R1 σ τ) : Post (f_AR_performOp1C σ) (f_MO_multiplies τ (x_instr σ) (f_CO_s σ) (f_CO_t σ)) := by
  obtain ⟨k, hk, hf⟩ := fn_ex σ
  revert hf
  exact c64 (P := fun k => f_CO_fn σ = nI k → Post (f_AR_performOp1C σ) (f_MO_multiplies τ (x_instr σ) (f_CO_s σ) (f_CO_t σ))) (fun q => mul_0 h q) (fun q => mul_1 h q) (fun q => mul_2 h q) (fun q => mul_3 h q) (fun q => mul_4 h q) (fun q => mul_5 h q) (fun q => mul_6 h q) (fun q => mul_7 h q) (fun q => mul_8 h q) (fun q => mul_9 h q) (fun q => mul_10 h q) (fun q => mul_11 h q) (fun q => mul_12 h q) (fun q => mul_13 h q) (fun q => mul_14 h q) (fun q => mul_15 h q) (fun q => mul_16 h q) (fun q => mul_17 h q) (fun q => mul_18 h q) (fun q => mul_19 h q) (fun q => mul_20 h q) (fun q => mul_21 h q) (fun q => mul_22 h q) (fun q => mul_23 h q) (fun q => mul_24 h q) (fun q => mul_25 h q) (fun q => mul_26 h q) (fun q => mul_27 h q) (fun q => mul_28 h q) (fun q => mul_29 h q) (fun q => mul_30 h q) (fun q => mul_31 h q) (fun q => mul_32 h q) (fun q => mul_33 h q) (fun q => mul_34 h q) (fun q => mul_35 h q) (fun q => mul_36 h q) (fun q => mul_37 h q) (fun q => mul_38 h q) (fun q => mul_39 h q) (fun q => mul_40 h q) (fun q => mul_41 h q) (fun q => mul_42 h q) (fun q => mul_43 h q) (fun q => mul_44 h q) (fun q => mul_45 h q) (fun q => mul_46 h q) (fun q => mul_47 h q) (fun q => mul_48 h q) (fun q => mul_49 h q) (fun q => mul_50 h q) (fun q => mul_51 h q) (fun q => mul_52 h q) (fun q => mul_53 h q) (fun q => mul_54 h q) (fun q => mul_55 h q) (fun q => mul_56 h q) (fun q => mul_57 h q) (fun q => mul_58 h q) (fun q => mul_59 h q) (fun q => mul_60 h q) (fun q => mul_61 h q) (fun q => mul_62 h q) (fun q => mul_63 h q) k hk
theorem oth_cpu (h : R1 σ τ) {r u : Int32} (hr : (r = 11 ∧ u = 0) ∨ (r = 43 ∧ u = 1) ∨ (r = 75 ∧ u = 2) ∨ (r = 107 ∧ u = 3)) : Post (σ, r) (f_MO_raise (ms_unit τ u) 11).1 := Or.inr ⟨T_fault (T_unit h.1 u) 11, Or.inr (Or.inl ⟨h.2.2.2.2.1, h.2.2.2.2.2.1, rfl, hr⟩)⟩
theorem oth_ri (h : R1 σ τ) (u : Int32) : Post (σ, 10) (f_MO_raise (ms_unit τ u) 10).1 := Or.inr ⟨T_fault (T_unit h.1 u) 10, Or.inl ⟨h.2.2.2.2.1, h.2.2.2.2.2.1, rfl, (by decide : (10 : Int32) = 0 ∨ (10 : Int32) = 6 ∨ (10 : Int32) = 7 ∨ (10 : Int32) = 8 ∨ (10 : Int32) = 9 ∨ (10 : Int32) = 10 ∨ (10 : Int32) = 12 ∨ (10 : Int32) = 13)⟩⟩
theorem oth_16 (h : R1 σ τ) : Post (σ, 10) (f_MO_other τ 16) := by
  unfold f_MO_other
  simp (decide := true) only [zb, reduceIte, i_MO_other_c2, f_MO_other_123, f_MO_other_116, f_MO_other_c1, f_MO_other_97, f_MO_other_76, f_MO_other_71, f_MO_other_40, f_MO_other_35]
  exact oth_ri h _
theorem oth_17 (h : R1 σ τ) : Post (σ, 43) (f_MO_other τ 17) := by
  unfold f_MO_other
  simp (decide := true) only [zb, reduceIte, i_MO_other_c2, f_MO_other_123, f_MO_other_116, f_MO_other_c1, f_MO_other_97, f_MO_other_76, f_MO_other_71, f_MO_other_40, f_MO_other_35]
  exact oth_cpu h (by decide)
theorem oth_18 (h : R1 σ τ) : Post (σ, 75) (f_MO_other τ 18) := by
  unfold f_MO_other
  simp (decide := true) only [zb, reduceIte, i_MO_other_c2, f_MO_other_123, f_MO_other_116, f_MO_other_c1, f_MO_other_97, f_MO_other_76, f_MO_other_71, f_MO_other_40, f_MO_other_35]
  exact oth_cpu h (by decide)
theorem oth_19 (h : R1 σ τ) : Post (σ, 107) (f_MO_other τ 19) := by
  unfold f_MO_other
  simp (decide := true) only [zb, reduceIte, i_MO_other_c2, f_MO_other_123, f_MO_other_116, f_MO_other_c1, f_MO_other_97, f_MO_other_76, f_MO_other_71, f_MO_other_40, f_MO_other_35]
  exact oth_cpu h (by decide)
theorem oth_20 (h : R1 σ τ) : Post (σ, 10) (f_MO_other τ 20) := by
  unfold f_MO_other
  simp (decide := true) only [zb, reduceIte, i_MO_other_c2, f_MO_other_123, f_MO_other_116, f_MO_other_c1, f_MO_other_97, f_MO_other_76, f_MO_other_71, f_MO_other_40, f_MO_other_35]
  exact oth_ri h _
theorem oth_21 (h : R1 σ τ) : Post (σ, 10) (f_MO_other τ 21) := by
  unfold f_MO_other
  simp (decide := true) only [zb, reduceIte, i_MO_other_c2, f_MO_other_123, f_MO_other_116, f_MO_other_c1, f_MO_other_97, f_MO_other_76, f_MO_other_71, f_MO_other_40, f_MO_other_35]
  exact oth_ri h _
theorem oth_22 (h : R1 σ τ) : Post (σ, 10) (f_MO_other τ 22) := by
  unfold f_MO_other
  simp (decide := true) only [zb, reduceIte, i_MO_other_c2, f_MO_other_123, f_MO_other_116, f_MO_other_c1, f_MO_other_97, f_MO_other_76, f_MO_other_71, f_MO_other_40, f_MO_other_35]
  exact oth_ri h _
theorem oth_23 (h : R1 σ τ) : Post (σ, 10) (f_MO_other τ 23) := by
  unfold f_MO_other
  simp (decide := true) only [zb, reduceIte, i_MO_other_c2, f_MO_other_123, f_MO_other_116, f_MO_other_c1, f_MO_other_97, f_MO_other_76, f_MO_other_71, f_MO_other_40, f_MO_other_35]
  exact oth_ri h _
theorem oth_24 (h : R1 σ τ) : Post (σ, 10) (f_MO_other τ 24) := by
  unfold f_MO_other
  simp (decide := true) only [zb, reduceIte, i_MO_other_c2, f_MO_other_123, f_MO_other_116, f_MO_other_c1, f_MO_other_97, f_MO_other_76, f_MO_other_71, f_MO_other_40, f_MO_other_35]
  exact oth_ri h _
theorem oth_25 (h : R1 σ τ) : Post (σ, 10) (f_MO_other τ 25) := by
  unfold f_MO_other
  simp (decide := true) only [zb, reduceIte, i_MO_other_c2, f_MO_other_123, f_MO_other_116, f_MO_other_c1, f_MO_other_97, f_MO_other_76, f_MO_other_71, f_MO_other_40, f_MO_other_35]
  exact oth_ri h _
theorem oth_26 (h : R1 σ τ) : Post (σ, 10) (f_MO_other τ 26) := by
  unfold f_MO_other
  simp (decide := true) only [zb, reduceIte, i_MO_other_c2, f_MO_other_123, f_MO_other_116, f_MO_other_c1, f_MO_other_97, f_MO_other_76, f_MO_other_71, f_MO_other_40, f_MO_other_35]
  exact oth_ri h _
theorem oth_27 (h : R1 σ τ) : Post (σ, 10) (f_MO_other τ 27) := by
  unfold f_MO_other
  simp (decide := true) only [zb, reduceIte, i_MO_other_c2, f_MO_other_123, f_MO_other_116, f_MO_other_c1, f_MO_other_97, f_MO_other_76, f_MO_other_71, f_MO_other_40, f_MO_other_35]
  exact oth_ri h _
theorem oth_28 (h : R1 σ τ) : Post (σ, 10) (f_MO_other τ 28) := by
  unfold f_MO_other
  simp (decide := true) only [zb, reduceIte, i_MO_other_c2, f_MO_other_123, f_MO_other_116, f_MO_other_c1, f_MO_other_97, f_MO_other_76, f_MO_other_71, f_MO_other_40, f_MO_other_35]
  exact oth_ri h _
theorem oth_29 (h : R1 σ τ) : Post (σ, 10) (f_MO_other τ 29) := by
  unfold f_MO_other
  simp (decide := true) only [zb, reduceIte, i_MO_other_c2, f_MO_other_123, f_MO_other_116, f_MO_other_c1, f_MO_other_97, f_MO_other_76, f_MO_other_71, f_MO_other_40, f_MO_other_35]
  exact oth_ri h _
theorem oth_30 (h : R1 σ τ) : Post (σ, 10) (f_MO_other τ 30) := by
  unfold f_MO_other
  simp (decide := true) only [zb, reduceIte, i_MO_other_c2, f_MO_other_123, f_MO_other_116, f_MO_other_c1, f_MO_other_97, f_MO_other_76, f_MO_other_71, f_MO_other_40, f_MO_other_35]
  exact oth_ri h _
theorem oth_31 (h : R1 σ τ) : Post (σ, 10) (f_MO_other τ 31) := by
  unfold f_MO_other
  simp (decide := true) only [zb, reduceIte, i_MO_other_c2, f_MO_other_123, f_MO_other_116, f_MO_other_c1, f_MO_other_97, f_MO_other_76, f_MO_other_71, f_MO_other_40, f_MO_other_35]
  exact oth_ri h _
theorem oth_32 (h : R1 σ τ) : Post (σ, 10) (f_MO_other τ 32) := by
  unfold f_MO_other
  simp (decide := true) only [zb, reduceIte, i_MO_other_c2, f_MO_other_123, f_MO_other_116, f_MO_other_c1, f_MO_other_97, f_MO_other_76, f_MO_other_71, f_MO_other_40, f_MO_other_35]
  exact oth_ri h _
theorem oth_33 (h : R1 σ τ) : Post (σ, 10) (f_MO_other τ 33) := by
  unfold f_MO_other
  simp (decide := true) only [zb, reduceIte, i_MO_other_c2, f_MO_other_123, f_MO_other_116, f_MO_other_c1, f_MO_other_97, f_MO_other_76, f_MO_other_71, f_MO_other_40, f_MO_other_35]
  exact oth_ri h _
theorem oth_34 (h : R1 σ τ) : Post (σ, 10) (f_MO_other τ 34) := by
  unfold f_MO_other
  simp (decide := true) only [zb, reduceIte, i_MO_other_c2, f_MO_other_123, f_MO_other_116, f_MO_other_c1, f_MO_other_97, f_MO_other_76, f_MO_other_71, f_MO_other_40, f_MO_other_35]
  exact oth_ri h _
theorem oth_35 (h : R1 σ τ) : Post (σ, 10) (f_MO_other τ 35) := by
  unfold f_MO_other
  simp (decide := true) only [zb, reduceIte, i_MO_other_c2, f_MO_other_123, f_MO_other_116, f_MO_other_c1, f_MO_other_97, f_MO_other_76, f_MO_other_71, f_MO_other_40, f_MO_other_35]
  exact oth_ri h _
theorem oth_36 (h : R1 σ τ) : Post (σ, 10) (f_MO_other τ 36) := by
  unfold f_MO_other
  simp (decide := true) only [zb, reduceIte, i_MO_other_c2, f_MO_other_123, f_MO_other_116, f_MO_other_c1, f_MO_other_97, f_MO_other_76, f_MO_other_71, f_MO_other_40, f_MO_other_35]
  exact oth_ri h _
theorem oth_37 (h : R1 σ τ) : Post (σ, 10) (f_MO_other τ 37) := by
  unfold f_MO_other
  simp (decide := true) only [zb, reduceIte, i_MO_other_c2, f_MO_other_123, f_MO_other_116, f_MO_other_c1, f_MO_other_97, f_MO_other_76, f_MO_other_71, f_MO_other_40, f_MO_other_35]
  exact oth_ri h _
theorem oth_38 (h : R1 σ τ) : Post (σ, 10) (f_MO_other τ 38) := by
  unfold f_MO_other
  simp (decide := true) only [zb, reduceIte, i_MO_other_c2, f_MO_other_123, f_MO_other_116, f_MO_other_c1, f_MO_other_97, f_MO_other_76, f_MO_other_71, f_MO_other_40, f_MO_other_35]
  exact oth_ri h _
theorem oth_39 (h : R1 σ τ) : Post (σ, 10) (f_MO_other τ 39) := by
  unfold f_MO_other
  simp (decide := true) only [zb, reduceIte, i_MO_other_c2, f_MO_other_123, f_MO_other_116, f_MO_other_c1, f_MO_other_97, f_MO_other_76, f_MO_other_71, f_MO_other_40, f_MO_other_35]
  exact oth_ri h _
theorem oth_40 (h : R1 σ τ) : Post (σ, 10) (f_MO_other τ 40) := by
  unfold f_MO_other
  simp (decide := true) only [zb, reduceIte, i_MO_other_c2, f_MO_other_123, f_MO_other_116, f_MO_other_c1, f_MO_other_97, f_MO_other_76, f_MO_other_71, f_MO_other_40, f_MO_other_35]
  exact oth_ri h _
theorem oth_41 (h : R1 σ τ) : Post (σ, 10) (f_MO_other τ 41) := by
  unfold f_MO_other
  simp (decide := true) only [zb, reduceIte, i_MO_other_c2, f_MO_other_123, f_MO_other_116, f_MO_other_c1, f_MO_other_97, f_MO_other_76, f_MO_other_71, f_MO_other_40, f_MO_other_35]
  exact oth_ri h _
theorem oth_42 (h : R1 σ τ) : Post (σ, 10) (f_MO_other τ 42) := by
  unfold f_MO_other
  simp (decide := true) only [zb, reduceIte, i_MO_other_c2, f_MO_other_123, f_MO_other_116, f_MO_other_c1, f_MO_other_97, f_MO_other_76, f_MO_other_71, f_MO_other_40, f_MO_other_35]
  exact oth_ri h _
theorem oth_43 (h : R1 σ τ) : Post (σ, 10) (f_MO_other τ 43) := by
  unfold f_MO_other
  simp (decide := true) only [zb, reduceIte, i_MO_other_c2, f_MO_other_123, f_MO_other_116, f_MO_other_c1, f_MO_other_97, f_MO_other_76, f_MO_other_71, f_MO_other_40, f_MO_other_35]
  exact oth_ri h _
theorem oth_44 (h : R1 σ τ) : Post (σ, 10) (f_MO_other τ 44) := by
  unfold f_MO_other
  simp (decide := true) only [zb, reduceIte, i_MO_other_c2, f_MO_other_123, f_MO_other_116, f_MO_other_c1, f_MO_other_97, f_MO_other_76, f_MO_other_71, f_MO_other_40, f_MO_other_35]
  exact oth_ri h _
theorem oth_45 (h : R1 σ τ) : Post (σ, 10) (f_MO_other τ 45) := by
  unfold f_MO_other
  simp (decide := true) only [zb, reduceIte, i_MO_other_c2, f_MO_other_123, f_MO_other_116, f_MO_other_c1, f_MO_other_97, f_MO_other_76, f_MO_other_71, f_MO_other_40, f_MO_other_35]
  exact oth_ri h _
theorem oth_46 (h : R1 σ τ) : Post (σ, 10) (f_MO_other τ 46) := by
  unfold f_MO_other
  simp (decide := true) only [zb, reduceIte, i_MO_other_c2, f_MO_other_123, f_MO_other_116, f_MO_other_c1, f_MO_other_97, f_MO_other_76, f_MO_other_71, f_MO_other_40, f_MO_other_35]
  exact oth_ri h _
theorem oth_47 (h : R1 σ τ) : Post (σ, 10) (f_MO_other τ 47) := by
  unfold f_MO_other
  simp (decide := true) only [zb, reduceIte, i_MO_other_c2, f_MO_other_123, f_MO_other_116, f_MO_other_c1, f_MO_other_97, f_MO_other_76, f_MO_other_71, f_MO_other_40, f_MO_other_35]
  exact oth_ri h _
theorem oth_48 (h : R1 σ τ) : Post (σ, 10) (f_MO_other τ 48) := by
  unfold f_MO_other
  simp (decide := true) only [zb, reduceIte, i_MO_other_c2, f_MO_other_123, f_MO_other_116, f_MO_other_c1, f_MO_other_97, f_MO_other_76, f_MO_other_71, f_MO_other_40, f_MO_other_35]
  exact oth_ri h _
theorem oth_49 (h : R1 σ τ) : Post (σ, 43) (f_MO_other τ 49) := by
  unfold f_MO_other
  simp (decide := true) only [zb, reduceIte, i_MO_other_c2, f_MO_other_123, f_MO_other_116, f_MO_other_c1, f_MO_other_97, f_MO_other_76, f_MO_other_71, f_MO_other_40, f_MO_other_35]
  exact oth_cpu h (by decide)
theorem oth_50 (h : R1 σ τ) : Post (σ, 75) (f_MO_other τ 50) := by
  unfold f_MO_other
  simp (decide := true) only [zb, reduceIte, i_MO_other_c2, f_MO_other_123, f_MO_other_116, f_MO_other_c1, f_MO_other_97, f_MO_other_76, f_MO_other_71, f_MO_other_40, f_MO_other_35]
  exact oth_cpu h (by decide)
theorem oth_51 (h : R1 σ τ) : Post (σ, 10) (f_MO_other τ 51) := by
  unfold f_MO_other
  simp (decide := true) only [zb, reduceIte, i_MO_other_c2, f_MO_other_123, f_MO_other_116, f_MO_other_c1, f_MO_other_97, f_MO_other_76, f_MO_other_71, f_MO_other_40, f_MO_other_35]
  exact oth_ri h _
theorem oth_52 (h : R1 σ τ) : Post (σ, 10) (f_MO_other τ 52) := by
  unfold f_MO_other
  simp (decide := true) only [zb, reduceIte, i_MO_other_c2, f_MO_other_123, f_MO_other_116, f_MO_other_c1, f_MO_other_97, f_MO_other_76, f_MO_other_71, f_MO_other_40, f_MO_other_35]
  exact oth_ri h _
theorem oth_53 (h : R1 σ τ) : Post (σ, 43) (f_MO_other τ 53) := by
  unfold f_MO_other
  simp (decide := true) only [zb, reduceIte, i_MO_other_c2, f_MO_other_123, f_MO_other_116, f_MO_other_c1, f_MO_other_97, f_MO_other_76, f_MO_other_71, f_MO_other_40, f_MO_other_35]
  exact oth_cpu h (by decide)
theorem oth_54 (h : R1 σ τ) : Post (σ, 75) (f_MO_other τ 54) := by
  unfold f_MO_other
  simp (decide := true) only [zb, reduceIte, i_MO_other_c2, f_MO_other_123, f_MO_other_116, f_MO_other_c1, f_MO_other_97, f_MO_other_76, f_MO_other_71, f_MO_other_40, f_MO_other_35]
  exact oth_cpu h (by decide)
theorem oth_55 (h : R1 σ τ) : Post (σ, 10) (f_MO_other τ 55) := by
  unfold f_MO_other
  simp (decide := true) only [zb, reduceIte, i_MO_other_c2, f_MO_other_123, f_MO_other_116, f_MO_other_c1, f_MO_other_97, f_MO_other_76, f_MO_other_71, f_MO_other_40, f_MO_other_35]
  exact oth_ri h _
theorem oth_56 (h : R1 σ τ) : Post (σ, 10) (f_MO_other τ 56) := by
  unfold f_MO_other
  simp (decide := true) only [zb, reduceIte, i_MO_other_c2, f_MO_other_123, f_MO_other_116, f_MO_other_c1, f_MO_other_97, f_MO_other_76, f_MO_other_71, f_MO_other_40, f_MO_other_35]
  exact oth_ri h _
theorem oth_57 (h : R1 σ τ) : Post (σ, 43) (f_MO_other τ 57) := by
  unfold f_MO_other
  simp (decide := true) only [zb, reduceIte, i_MO_other_c2, f_MO_other_123, f_MO_other_116, f_MO_other_c1, f_MO_other_97, f_MO_other_76, f_MO_other_71, f_MO_other_40, f_MO_other_35]
  exact oth_cpu h (by decide)
theorem oth_58 (h : R1 σ τ) : Post (σ, 75) (f_MO_other τ 58) := by
  unfold f_MO_other
  simp (decide := true) only [zb, reduceIte, i_MO_other_c2, f_MO_other_123, f_MO_other_116, f_MO_other_c1, f_MO_other_97, f_MO_other_76, f_MO_other_71, f_MO_other_40, f_MO_other_35]
  exact oth_cpu h (by decide)
theorem oth_59 (h : R1 σ τ) : Post (σ, 10) (f_MO_other τ 59) := by
  unfold f_MO_other
  simp (decide := true) only [zb, reduceIte, i_MO_other_c2, f_MO_other_123, f_MO_other_116, f_MO_other_c1, f_MO_other_97, f_MO_other_76, f_MO_other_71, f_MO_other_40, f_MO_other_35]
  exact oth_ri h _
theorem oth_60 (h : R1 σ τ) : Post (σ, 10) (f_MO_other τ 60) := by
  unfold f_MO_other
  simp (decide := true) only [zb, reduceIte, i_MO_other_c2, f_MO_other_123, f_MO_other_116, f_MO_other_c1, f_MO_other_97, f_MO_other_76, f_MO_other_71, f_MO_other_40, f_MO_other_35]
  exact oth_ri h _
theorem oth_61 (h : R1 σ τ) : Post (σ, 43) (f_MO_other τ 61) := by
  unfold f_MO_other
  simp (decide := true) only [zb, reduceIte, i_MO_other_c2, f_MO_other_123, f_MO_other_116, f_MO_other_c1, f_MO_other_97, f_MO_other_76, f_MO_other_71, f_MO_other_40, f_MO_other_35]
  exact oth_cpu h (by decide)
theorem oth_62 (h : R1 σ τ) : Post (σ, 75) (f_MO_other τ 62) := by
  unfold f_MO_other
  simp (decide := true) only [zb, reduceIte, i_MO_other_c2, f_MO_other_123, f_MO_other_116, f_MO_other_c1, f_MO_other_97, f_MO_other_76, f_MO_other_71, f_MO_other_40, f_MO_other_35]
  exact oth_cpu h (by decide)
theorem oth_63 (h : R1 σ τ) : Post (σ, 10) (f_MO_other τ 63) := by
  unfold f_MO_other
  simp (decide := true) only [zb, reduceIte, i_MO_other_c2, f_MO_other_123, f_MO_other_116, f_MO_other_c1, f_MO_other_97, f_MO_other_76, f_MO_other_71, f_MO_other_40, f_MO_other_35]
  exact oth_ri h _
end IN2
