section FA2
variable {σ : XS} {τ : MS}
theorem isReg0 (τ : MS) (a2 : Int32) : f_MO_isRegister τ 0 a2 = f_MO_within τ a2 0 34 := by
  unfold f_MO_isRegister
  rw [if_pos rfl]
theorem isReg1 (τ : MS) (a2 : Int32) : f_MO_isRegister τ 1 a2 = f_MO_within τ a2 0 31 := by
  unfold f_MO_isRegister
  rw [if_neg (show ¬ (1 : Int32) = 0 by decide), if_pos rfl]
  cases f_MO_within τ a2 0 31 <;> rfl
theorem isRegN (τ : MS) {a1 : Int32} (a2 : Int32) (h0 : ¬ a1 = 0) (h1 : ¬ a1 = 1) : f_MO_isRegister τ a1 a2 = false := by
  unfold f_MO_isRegister
  rw [if_neg h0, if_neg h1]
theorem wi_cases (τ : MS) (a M : Int32) : f_MO_within τ a 0 M = (if a < 0 then false else if a ≤ M then true else false) := by
  unfold f_MO_within
  by_cases e1 : a < 0
  · rw [if_pos e1, if_pos e1]
  · rw [if_neg e1, if_neg e1]
    by_cases e2 : M < a
    · rw [if_pos e2, if_neg (Int32.not_le.mpr e2)]
    · rw [if_neg e2, if_pos (Int32.not_lt.mp e2)]
theorem le31 (a : Int32) : (32 : Int32) ≤ a ↔ ¬ a ≤ (31 : Int32) := by
  rw [Int32.le_iff_toInt_le, Int32.le_iff_toInt_le, show (32 : Int32).toInt = 32 by decide, show (31 : Int32).toInt = 31 by decide]
  omega
theorem check_ag (σ : XS) (τ : MS) (a1 a2 : Int32) : f_PM_checkRegister σ a1 a2 = if f_MO_isRegister τ a1 a2 then .inl σ else .inr nIO := by
  have h29 : f_PM_checkRegister_29 σ a1 a2 = .inl σ := rfl
  have h33 : f_PM_checkRegister_33 σ a1 a2 = .inr nIO := rfl
  unfold f_PM_checkRegister f_PM_checkRegister_14
  rw [h29, h33]
  by_cases h0 : a1 = 0
  · subst h0
    rw [isReg0, wi_cases, if_pos rfl, if_neg (show ¬ (0 : Int32) = 1 by decide)]
    by_cases e1 : a2 < 0
    · simp [e1]
    · by_cases e2 : a2 ≤ 34
      · simp [e1, e2]
      · simp [e1, e2]
  · rw [if_neg h0]
    by_cases h1 : a1 = 1
    · subst h1
      rw [isReg1, wi_cases, if_pos rfl]
      by_cases e1 : a2 < 0
      · simp [e1]
      · by_cases e2 : a2 ≤ 31
        · have e3 : ¬ (32 : Int32) ≤ a2 := fun q => (le31 a2).1 q e2
          simp [e1, e2, e3]
        · have e3 : (32 : Int32) ≤ a2 := (le31 a2).2 e2
          simp [e1, e2, e3]
    · rw [if_neg h1, isRegN τ a2 h0 h1]
      rfl
theorem pt_rel (h : Rel σ τ) {a : Int32} (v : Int32) (ha : a &&& (31 : Int32) = a) : Rel (f_CO_put σ a v).1 (f_MO_put τ a v) := by
  have h1 : R1 (xs_nextds (xs_nextPc σ (m_next τ)) (m_nextSlot τ)) (ms_unit (ms_refills (ms_hasAddress (ms_fault τ (-1)) false) false) 0) := ⟨T_nextds (T_nextPc (T_unit (T_refills (T_hasAddress (T_fault h (-1)) false) false) 0) _) _, rfl, rfl, rfl, rfl, rfl, rfl⟩
  obtain ⟨k, hk, rfl⟩ := and31z ha
  have hr := R_regs h
  have h0 := R_r0 h
  unfold f_CO_put f_MO_put
  rw [ha]
  by_cases e : k = 0
  · subst e
    rw [if_pos nI_0, if_pos nI_0]
    have e2 : upd (m_r τ) (nI 0).toNatClampNeg 0 = m_r τ := by
      funext j
      unfold upd
      by_cases hj : j = (nI 0).toNatClampNeg
      · rw [if_pos hj, hj]
        exact h0.symm
      · rw [if_neg hj]
    have e3 := U_regs h (m_r τ) h0
    unfold f_MO_put_14 f_MO_put_c1
    rw [e2]
    have e4 : xs_regs σ (m_r τ) = σ := by rw [← hr]; rfl
    rw [e4] at e3
    exact e3
  · rw [if_neg (nI_ne0 (by omega) (by omega)), if_neg (nI_ne0 (by omega) (by omega)), hr]
    refine U_regs h _ ?_
    rw [nI_clamp (by omega), pk_un (by omega)]
    exact h0
theorem S_set : Sm_set Rel := by
  intro u τ a1 a2 a3 h
  have hT := T_thrown h 0
  have hm : f_MO_set τ a1 a2 a3 = f_MO_set_c1 (ms_thrown τ 0) a1 a2 a3 := rfl
  have hP : P_MO_set_c1 (ms_thrown τ 0) a1 a2 a3 → P_MO_set τ a1 a2 a3 := fun q => q
  have hck := check_ag u.1 (ms_thrown τ 0) a1 a2
  have P75 : ∀ τ' w, P_MO_set_75 τ' a1 a2 a3 w := fun τ' w => ⟨fun _ => trivial, fun _ => trivial⟩
  rw [hm]
  unfold h_set f_PM_set
  rw [hck]
  cases hr : f_MO_isRegister (ms_thrown τ 0) a1 a2
  · refine ⟨hP ⟨fun _ => trivial, fun q => ?_⟩, ?_, ?_⟩
    · rw [hr] at q
      exact absurd (show zb false = 0 by decide) q
    · unfold f_MO_set_c1
      rw [hr, if_pos (show zb false = 0 by decide)]
      rfl
    · unfold f_MO_set_c1
      rw [hr, if_pos (show zb false = 0 by decide), i_MO_set_c6]
      exact T_thrown hT 1
  · have hz : ¬ zb (f_MO_isRegister (ms_thrown τ 0) a1 a2) = 0 := by
      rw [hr]
      decide
    rw [if_pos rfl]
    show P_MO_set τ a1 a2 a3 ∧ m_thrown (f_MO_set_c1 (ms_thrown τ 0) a1 a2 a3) = (match f_PM_set_c1 u.1 a1 a2 a3 with | .inl z => ((z, u.2), (0 : Int32)) | .inr _ => (u, 1)).2 ∧ Rel (match f_PM_set_c1 u.1 a1 a2 a3 with | .inl z => ((z, u.2), (0 : Int32)) | .inr _ => (u, 1)).1.1 (f_MO_set_c1 (ms_thrown τ 0) a1 a2 a3)
    by_cases h1 : a1 = 1
    · subst h1
      rw [isReg1] at hr
      obtain ⟨k, hk, rfl⟩ := wi_of (n := 31) (by decide) hr
      obtain ⟨f, t, hF, w1, w2⟩ := write_ag hT (k := k) (by omega) a3
      have hin : vp_in (nI k) 32 := nI_in (by omega) (by omega)
      have hmm : f_MO_set_c1 (ms_thrown τ 0) 1 (nI k) a3 = ms_timer (ms_sys (ms_thrown τ 0) f) t := by
        unfold f_MO_set_c1
        rw [if_neg hz, if_pos rfl, i_MO_set_c5, w2]
      have hcc : f_PM_set_c1 u.1 1 (nI k) a3 = .inl (xs_timer (xs_values u.1 f) t) := by
        unfold f_PM_set_c1
        rw [if_pos rfl, w1]
        rfl
      rw [hmm, hcc]
      exact ⟨hP ⟨fun q => absurd q hz, fun _ => ⟨fun _ => ⟨hin, trivial⟩, fun q => absurd rfl q⟩⟩, rfl, U_timer (U_values hT f hF) t⟩
    · have h0 : a1 = 0 := by
        by_cases q : a1 = 0
        · exact q
        · rw [isRegN _ _ q h1] at hr
          exact absurd hr (by decide)
      subst h0
      rw [isReg0] at hr
      obtain ⟨k, hk, rfl⟩ := wi_of (n := 34) (by decide) hr
      unfold f_MO_set_c1 f_PM_set_c1
      rw [if_neg hz, if_neg h1, if_neg h1]
      have hPP : (nI k ≤ 31 → vp_in (nI k) 32) → P_MO_set τ 0 (nI k) a3 := fun hv => hP ⟨fun q => absurd q hz, fun _ => ⟨fun q => absurd q h1, fun _ => ⟨fun _ => trivial, fun _ => ⟨fun q => ⟨hv q, trivial⟩, fun _ => ⟨fun _ => P75 _ _, fun _ => P75 _ _⟩⟩⟩⟩⟩
      by_cases k34 : k = 34
      · subst k34
        simp (decide := true) only [reduceIte, f_MO_set_c3, i_MO_set_c4, f_PM_set_c3, f_CO_restartAt, f_CO_restartAt_c1, i_CO_restartAt_c2]
        exact ⟨hPP (fun q => absurd q (by decide)), rfl, U_inds (U_pc hT a3) false⟩
      · by_cases k33 : k = 33
        · subst k33
          simp (decide := true) only [reduceIte, f_MO_set_75, f_MO_set_c7, f_MO_set_93, i_MO_set_c8, f_PM_set_c4]
          refine ⟨hPP (fun q => absurd q (by decide)), rfl, ?_⟩
          have q := U_hi hT (m_hi τ)
          have q2 : xs_hi u.1 (m_hi τ) = u.1 := by
            rw [← R_hi h]
            rfl
          rw [q2] at q
          exact U_lo q a3
        · by_cases k32 : k = 32
          · subst k32
            simp (decide := true) only [reduceIte, f_MO_set_75, f_MO_set_c7, f_MO_set_93, i_MO_set_c8, f_PM_set_c5]
            refine ⟨hPP (fun q => absurd q (by decide)), rfl, ?_⟩
            have q := U_lo (U_hi hT a3) (m_lo τ)
            have q2 : xs_lo (xs_hi u.1 a3) (m_lo τ) = xs_hi u.1 a3 := by
              rw [← R_lo h]
              rfl
            rw [q2] at q
            exact q
          · have hk31 : k < 32 := by omega
            have q := pt_rel hT a3 (and31n hk31)
            simp only [if_neg (show ¬ nI k = 34 from nk (j := 34) (by omega) (by omega) k34), if_neg (show ¬ nI k = 32 from nk (j := 32) (by omega) (by omega) k32), if_neg (show ¬ nI k = 33 from nk (j := 33) (by omega) (by omega) k33), if_pos (show nI k ≤ 31 from nI_le (b := 31) (by omega) (by omega)), i_MO_set_c2, f_PM_set_c2]
            refine ⟨hPP (fun _ => nI_in hk31 (by omega)), ?_, q⟩
            show m_thrown (f_MO_put (ms_thrown τ 0) (nI k) a3) = 0
            rw [th_MO_put]
            rfl
end FA2
