section FAC
variable {σ : XS} {τ : MS}
theorem addr4 (a : Int32) : (a - a / (4 : Int32) * (4 : Int32)) = 0 ↔ (a &&& (3 : Int32)) = 0 := by
  have h4 : (4 : Int32).toInt = 4 := by decide
  have hc := toInt_c a
  have hn := a.toBitVec.isLt
  have hd : a.toInt.tdiv 4 = a.toInt / 4 ∨ (a.toInt < 0 ∧ a.toInt.tdiv 4 = a.toInt / 4 + 1) := by
    rw [Int.tdiv_eq_ediv]
    by_cases q : 0 ≤ a.toInt ∨ 4 ∣ a.toInt
    · rw [if_pos q]
      exact Or.inl (by omega)
    · rw [if_neg q]
      exact Or.inr ⟨by omega, rfl⟩
  have hb : -2147483648 ≤ a.toInt ∧ a.toInt < 2147483648 := by
    split at hc <;> omega
  have e1 : (a / (4 : Int32)).toInt = a.toInt.tdiv 4 := by
    rw [Int32.toInt_div, h4]
    exact Int.bmod_eq_of_le (by omega) (by omega)
  have e2 : (a / (4 : Int32) * (4 : Int32)).toInt = a.toInt.tdiv 4 * 4 := by
    rw [Int32.toInt_mul, e1, h4]
    exact Int.bmod_eq_of_le (by omega) (by omega)
  have e3 : (a - a / (4 : Int32) * (4 : Int32)).toInt = a.toInt - a.toInt.tdiv 4 * 4 := by
    rw [Int32.toInt_sub, e2]
    exact Int.bmod_eq_of_le (by omega) (by omega)
  have hdv : a.toInt - a.toInt.tdiv 4 * 4 = 0 ↔ a.toInt % 4 = 0 := by
    constructor
    · intro q
      omega
    · intro q
      have : (4 : Int) ∣ a.toInt := Int.dvd_of_emod_eq_zero q
      have := Int.tdiv_mul_cancel this
      omega
  have e5 : (a &&& (3 : Int32)) = 0 ↔ a.toBitVec.toNat % 4 = 0 := by
    rw [pk_and a (m := 3) 2 (by decide), ← nI_0, nI_eq (by omega) (by omega)]
  rw [← Int32.toInt_inj, e3, show (0 : Int32).toInt = 0 by decide, hdv, e5]
  split at hc <;> omega
theorem has_ag (σ : XS) (τ : MS) (a : Int32) : f_ME_has σ (Int32.toInt64 a) = f_MO_within τ a 0 262143 := by
  unfold f_ME_has f_MO_within
  have h1 : lg_cmp (Int32.toInt64 a) 0 < 0 ↔ a < 0 := by
    rw [lg_cmp_lt, Int64.lt_iff_toInt_lt, Int32.lt_iff_toInt_lt, Int32.toInt_toInt64]
    rfl
  have h2 : 0 ≤ lg_cmp (Int32.toInt64 a) 262144 ↔ (262143 : Int32) < a := by
    rw [lg_cmp_ge, Int64.le_iff_toInt_le, Int32.lt_iff_toInt_lt, Int32.toInt_toInt64, show (262144 : Int64).toInt = 262144 by decide, show (262143 : Int32).toInt = 262143 by decide]
    omega
  by_cases e1 : a < 0
  · rw [if_pos e1, if_pos (h1.2 e1)]
  · rw [if_neg e1, if_neg (fun q => e1 (h1.1 q))]
    by_cases e2 : (262143 : Int32) < a
    · rw [if_pos e2, if_pos (h2.2 e2)]
    · rw [if_neg e2, if_neg (fun q => e2 (h2.1 q))]
theorem wi_of {τ : MS} {a M : Int32} {n : Nat} (hM : M.toInt = n) (h : f_MO_within τ a 0 M = true) : ∃ j : Nat, j ≤ n ∧ a = nI j := by
  unfold f_MO_within at h
  by_cases e1 : a < 0
  · rw [if_pos e1] at h
    exact absurd h (by decide)
  · rw [if_neg e1] at h
    by_cases e2 : M < a
    · rw [if_pos e2] at h
      exact absurd h (by decide)
    · exact nI_of2 hM e1 (Int32.not_lt.mp e2)
theorem ioia : (if nIO = nIA then (1 : Int32) else 2) = 2 := by decide
theorem iaia : (if nIA = nIA then (1 : Int32) else 2) = 1 := by decide
theorem S_poke : Sm_poke Rel := by
  intro u τ a1 a2 h
  have hT := T_thrown h 0
  have hm : f_MO_poke τ a1 a2 = f_MO_poke_c1 (ms_thrown τ 0) a1 a2 := rfl
  have hP : P_MO_poke_c1 (ms_thrown τ 0) a1 a2 → P_MO_poke τ a1 a2 := fun q => q
  have h4 := addr4 a1
  rw [hm]
  by_cases e3 : (a1 &&& (3 : Int32)) = 0
  · cases hw : f_MO_within (ms_thrown τ 0) a1 0 262143
    · have hc : f_PM_poke u.1 a1 a2 = .inr nIO := by
        unfold f_PM_poke f_PM_checkWordAddress
        rw [if_pos e3, has_ag _ (ms_thrown τ 0), hw, if_pos (show zb false = 0 by decide)]
        try rfl
      have hmm : f_MO_poke_c1 (ms_thrown τ 0) a1 a2 = f_MO_fail (ms_thrown τ 0) 2 := by
        unfold f_MO_poke_c1
        rw [if_pos (h4.2 e3), hw, if_pos (show zb false = 0 by decide), i_MO_poke_c3]
      unfold h_poke
      rw [hc, hmm]
      refine ⟨hP ⟨fun _ => ⟨fun _ => trivial, fun q => ?_⟩, fun q => absurd (h4.2 e3) q⟩, ioia.symm, fun q => absurd (ioia.symm.trans q) (by decide), T_thrown hT 2⟩
      rw [hw] at q
      exact absurd (show zb false = 0 by decide) q
    · obtain ⟨p, hp, rfl⟩ := wi_of (n := 262143) (by decide) hw
      have hp2 : p < 262144 := by omega
      have hc : f_PM_poke u.1 (nI p) a2 = .inl (f_ME_putWord u.1 (nI p) a2, f_ME_wordAt u.1 (nI p)) := by
        unfold f_PM_poke f_PM_checkWordAddress
        rw [if_pos e3, has_ag _ (ms_thrown τ 0), hw, if_neg (show ¬ zb true = 0 by decide)]
        rfl
      have hmm : f_MO_poke_c1 (ms_thrown τ 0) (nI p) a2 = (ms_memory (ms_thrown τ 0) (upd (m_memory τ) (p / 4) a2), m_memory τ (p / 4)) := by
        unfold f_MO_poke_c1 f_MO_poke_c2
        rw [if_pos (h4.2 e3), hw, if_neg (show ¬ zb true = 0 by decide), d4 hp2, nI_clamp (by omega)]
        rfl
      have hin : vp_in (nI p / (4 : Int32)) 65536 := by
        rw [d4 hp2]
        exact nI_in (by omega) (by omega)
      unfold h_poke
      rw [hc, hmm]
      refine ⟨hP ⟨fun _ => ⟨fun _ => trivial, fun _ => ⟨hin, hin, trivial⟩⟩, fun q => absurd (h4.2 e3) q⟩, rfl, fun _ => ?_, ?_⟩
      · show vp_updL u.2 0 (Int32.toInt64 (f_ME_wordAt u.1 (nI p))) 0 = Int32.toInt64 (m_memory τ (p / 4))
        rw [pk_uLs, wordAt_ag h hp2]
      · show Rel (f_ME_putWord u.1 (nI p) a2) (ms_memory (ms_thrown τ 0) (upd (m_memory τ) (p / 4) a2))
        unfold f_ME_putWord
        rw [i_ME_putWord_c1, me_row _ hp2, nI_clamp (by omega), R_words h]
        exact U_words hT _
  · have hc : f_PM_poke u.1 a1 a2 = .inr nIA := by
      unfold f_PM_poke f_PM_checkWordAddress
      rw [if_neg e3]
      try rfl
    have hmm : f_MO_poke_c1 (ms_thrown τ 0) a1 a2 = f_MO_fail (ms_thrown τ 0) 1 := by
      unfold f_MO_poke_c1
      rw [if_neg (fun q => e3 (h4.1 q)), i_MO_poke_c4]
    unfold h_poke
    rw [hc, hmm]
    exact ⟨hP ⟨fun q => absurd (h4.1 q) e3, fun _ => trivial⟩, iaia.symm, fun q => absurd (iaia.symm.trans q) (by decide), T_thrown hT 1⟩
theorem S_peek : Sm_peek Rel := by
  intro u τ a1 h
  have hT := T_thrown h 0
  have hm : f_MO_peek τ a1 = f_MO_peek_c1 (ms_thrown τ 0) a1 := rfl
  have hP : P_MO_peek_c1 (ms_thrown τ 0) a1 → P_MO_peek τ a1 := fun q => q
  have h4 := addr4 a1
  rw [hm]
  by_cases e3 : (a1 &&& (3 : Int32)) = 0
  · cases hw : f_MO_within (ms_thrown τ 0) a1 0 262143
    · have hc : f_PM_peek u.1 a1 = .inr nIO := by
        unfold f_PM_peek f_PM_checkWordAddress
        rw [if_pos e3, has_ag _ (ms_thrown τ 0), hw, if_pos (show zb false = 0 by decide)]
        try rfl
      have hmm : f_MO_peek_c1 (ms_thrown τ 0) a1 = f_MO_fail (ms_thrown τ 0) 2 := by
        unfold f_MO_peek_c1
        rw [if_pos (h4.2 e3), hw, if_pos (show zb false = 0 by decide), i_MO_peek_c2]
      unfold h_peek
      rw [hc, hmm]
      refine ⟨hP ⟨fun _ => ⟨fun _ => trivial, fun q => ?_⟩, fun q => absurd (h4.2 e3) q⟩, ioia.symm, fun q => absurd (ioia.symm.trans q) (by decide), T_thrown hT 2⟩
      rw [hw] at q
      exact absurd (show zb false = 0 by decide) q
    · obtain ⟨p, hp, rfl⟩ := wi_of (n := 262143) (by decide) hw
      have hp2 : p < 262144 := by omega
      have hc : f_PM_peek u.1 (nI p) = .inl (u.1, f_ME_wordAt u.1 (nI p)) := by
        unfold f_PM_peek f_PM_checkWordAddress
        rw [if_pos e3, has_ag _ (ms_thrown τ 0), hw, if_neg (show ¬ zb true = 0 by decide)]
        rfl
      have hmm : f_MO_peek_c1 (ms_thrown τ 0) (nI p) = (ms_thrown τ 0, m_memory τ (p / 4)) := by
        unfold f_MO_peek_c1
        rw [if_pos (h4.2 e3), hw, if_neg (show ¬ zb true = 0 by decide), d4 hp2, nI_clamp (by omega)]
        rfl
      have hin : vp_in (nI p / (4 : Int32)) 65536 := by
        rw [d4 hp2]
        exact nI_in (by omega) (by omega)
      unfold h_peek
      rw [hc, hmm]
      refine ⟨hP ⟨fun _ => ⟨fun _ => trivial, fun _ => ⟨hin, trivial⟩⟩, fun q => absurd (h4.2 e3) q⟩, rfl, fun _ => ?_, hT⟩
      show vp_updL u.2 0 (Int32.toInt64 (f_ME_wordAt u.1 (nI p))) 0 = Int32.toInt64 (m_memory τ (p / 4))
      rw [pk_uLs, wordAt_ag h hp2]
  · have hc : f_PM_peek u.1 a1 = .inr nIA := by
      unfold f_PM_peek f_PM_checkWordAddress
      rw [if_neg e3]
      try rfl
    have hmm : f_MO_peek_c1 (ms_thrown τ 0) a1 = f_MO_fail (ms_thrown τ 0) 1 := by
      unfold f_MO_peek_c1
      rw [if_neg (fun q => e3 (h4.1 q)), i_MO_peek_c3]
    unfold h_peek
    rw [hc, hmm]
    exact ⟨hP ⟨fun q => absurd (h4.1 q) e3, fun _ => trivial⟩, iaia.symm, fun q => absurd (iaia.symm.trans q) (by decide), T_thrown hT 1⟩
theorem S_step : Sm_step Rel := by
  intro u τ a1 h
  have hT := T_thrown h 0
  have hm : f_MO_step τ a1 = f_MO_step_c1 (ms_thrown τ 0) a1 := rfl
  have hP : P_MO_step_c1 (ms_thrown τ 0) a1 → P_MO_step τ a1 := fun q => q
  rw [hm]
  unfold h_step f_PM_step f_MO_step_c1
  have hs := steps_ag a1 (a1.toNatClampNeg + 1) u.1 (ms_thrown τ 0) 0 0 hT
  have hthr : ∀ (n : Nat) (τ' : MS) (v k : Int32), m_thrown (f_MO_step_26 n τ' a1 v k).1 = m_thrown τ' := by
    have hgo : ∀ τ' : MS, m_thrown (f_MO_go τ').1 = m_thrown τ' := th_MO_go
    intro n
    induction n with
    | zero => exact fun τ' v k => rfl
    | succ n ih =>
      intro τ' v k
      rw [f_MO_step_26]
      by_cases e : a1 ≤ v
      · rw [if_pos e]
      · rw [if_neg e]
        by_cases e2 : zb (f_MO_go τ').2 = 0
        · rw [if_pos e2, ih, hgo]
        · rw [if_neg e2, ih, hgo]
  by_cases e1 : a1 < 1
  · have hw : f_MO_within (ms_thrown τ 0) a1 1 20000 = false := by
      unfold f_MO_within
      rw [if_pos e1]
    rw [if_pos e1, hw, if_pos (show zb false = 0 by decide), i_MO_step_c2]
    refine ⟨hP ⟨fun _ => trivial, fun q => ?_⟩, rfl, fun q => absurd (show (1 : Int32) = 0 from q) (by decide), T_thrown hT 1⟩
    rw [hw] at q
    exact absurd (show zb false = 0 by decide) q
  · by_cases e2 : a1 ≤ 20000
    · have hw : f_MO_within (ms_thrown τ 0) a1 1 20000 = true := by
        unfold f_MO_within
        rw [if_neg e1, if_neg (Int32.not_lt.mpr e2)]
      rw [if_neg e1, if_pos e2, hw, if_neg (show ¬ zb true = 0 by decide)]
      obtain ⟨hp, σ', q1, q2, q3⟩ := hs
      rw [q1 (by omega)]
      refine ⟨hP ⟨fun q => ?_, fun _ => hp⟩, hthr _ _ _ _, fun _ => ?_, q3⟩
      · rw [hw] at q
        exact absurd q (by decide)
      · show vp_updL u.2 0 (Int32.toInt64 (f_MO_step_26 (a1.toNatClampNeg + 1) (ms_thrown τ 0) a1 0 0).2) 0 = _
        exact pk_uLs
    · have hw : f_MO_within (ms_thrown τ 0) a1 1 20000 = false := by
        unfold f_MO_within
        rw [if_neg e1, if_pos (Int32.not_le.mp e2)]
      rw [if_neg e1, if_neg e2, hw, if_pos (show zb false = 0 by decide), i_MO_step_c2]
      refine ⟨hP ⟨fun _ => trivial, fun q => ?_⟩, rfl, fun q => absurd (show (1 : Int32) = 0 from q) (by decide), T_thrown hT 1⟩
      rw [hw] at q
      exact absurd (show zb false = 0 by decide) q
end FAC
