section STP
variable {σ : XS} {τ : MS}
theorem int_ag (h : Rel σ τ) : f_SR_interruptIsDue σ = f_MO_isCalled τ := by
  unfold f_SR_interruptIsDue f_MO_isCalled
  rw [R_values h, c12, isIn0, isIn1, read13 h]
  have e := fl3 (m_sys τ 12)
  cases h0 : bt (m_sys τ 12) 0 <;> cases h1 : bt (m_sys τ 12) 1 <;> simp [h0, h1] at e <;> simp [e, zb]
theorem mr_ag (h : Rel σ τ) (b : Bool) : (f_MO_go_182 τ b).2 = b ∧ Rel (f_SR_moveRandom σ) (f_MO_go_182 τ b).1 := by
  obtain ⟨k, hk, ek⟩ := (R_sok h).1
  have hG : ∀ v, sysOK (upd (m_sys τ) 1 v) → Rel (f_SR_moveRandom_35 σ v) (f_MO_go_225 τ b v).1 := fun v hv => by
    unfold f_SR_moveRandom_35 f_MO_go_225 f_MO_go_c17
    rw [i_SR_moveRandom_c1, R_values h, c1]
    exact U_values h _ hv
  have h31 := hG 31 (sok_1 (R_sok h) (k := 31) (by decide))
  unfold f_SR_moveRandom f_MO_go_182 f_MO_go_212 f_SR_moveRandom_27
  rw [R_values h, c1, c6]
  by_cases e1 : m_sys τ 1 = m_sys τ 6
  · rw [if_pos e1, if_pos e1]
    exact ⟨rfl, h31⟩
  · rw [if_neg e1, if_neg e1]
    by_cases e2 : m_sys τ 1 = 0
    · rw [if_pos e2, if_pos e2]
      exact ⟨rfl, h31⟩
    · rw [if_neg e2, if_neg e2]
      refine ⟨rfl, hG _ ?_⟩
      have k0 : k ≠ 0 := fun q => e2 (by rw [ek, q]; rfl)
      have e3 : m_sys τ 1 - 1 = nI (k - 1) := by
        rw [ek, show (1 : Int32) = nI 1 from rfl, pk_sub (by omega)]
      rw [e3]
      exact sok_1 (R_sok h) (by omega)
theorem P182 (τ : MS) (b : Bool) : P_MO_go_182 τ b := ⟨fun _ => trivial, fun _ => ⟨fun _ => trivial, fun _ => trivial⟩⟩
theorem fin56 {z : XS × Int32} (h : Post z τ) : P_MO_go_142 τ ∧ (f_PR_stepWasFault_56 z.1 z.2).2 = (f_MO_go_142 τ).2 ∧ Rel (f_PR_stepWasFault_56 z.1 z.2).1 (f_MO_go_142 τ).1 := by
  rcases h with ⟨e, h⟩ | ⟨h, hF⟩
  · have hflt : m_fault τ < 0 := by
      rw [h.2.2.2.1]
      decide
    have hR : Rel (f_CO_finish z.1) (ms_slot (ms_pc τ (m_next τ)) (m_nextSlot (ms_pc τ (m_next τ)))) := by
      unfold f_CO_finish f_CO_finish_c1
      rw [i_CO_finish_c2]
      have q := U_inds (U_pc h.1 (m_next τ)) (m_nextSlot τ)
      rw [h.2.1]
      have q2 : x_nextds (xs_pc z.1 (m_next τ)) = m_nextSlot τ := (h.2.2.1 : x_nextds z.1 = m_nextSlot τ)
      rw [q2]
      exact q
    have hmr := mr_ag hR false
    refine ⟨⟨fun _ => ⟨fun _ => P182 _ _, fun q => absurd (show zb false = 0 by decide) q⟩, fun q => absurd hflt q⟩, ?_⟩
    unfold f_MO_go_142 f_MO_go_154 f_PR_stepWasFault_56
    rw [if_pos hflt, if_pos (show zb false = 0 by decide), if_pos e]
    unfold f_PR_stepWasFault_c7 f_PR_stepWasFault_76 f_PR_stepWasFault_c8 f_MO_go_c14 f_MO_go_c15
    rw [if_pos e]
    exact ⟨hmr.1.symm, hmr.2⟩
  · have hp := Fa_pos hF
    have he := ent_ag h hF
    have hmr := mr_ag he.2 true
    refine ⟨⟨fun q => absurd q hp.1, fun _ => ⟨fun q => absurd q (by decide), fun _ => ⟨he.1, P182 _ _⟩⟩⟩, ?_⟩
    unfold f_MO_go_142 f_MO_go_154 f_PR_stepWasFault_56
    rw [if_neg hp.1, if_neg (show ¬ zb true = 0 by decide), if_neg hp.2]
    unfold f_PR_stepWasFault_c6 f_PR_stepWasFault_76 f_PR_stepWasFault_c8 f_MO_go_c16
    rw [if_neg hp.2]
    exact ⟨hmr.1.symm, hmr.2⟩
def nx (τ : MS) : Int32 := if zb (m_slot τ) = 0 then m_pc τ + 4 else m_target τ
theorem c8_eq (y : MS × Int64) : f_MO_go_c8 y = f_MO_go_c12 (ms_nextSlot (ms_next y.1 (nx y.1)) false) y.2 := by
  unfold f_MO_go_c8 nx f_MO_go_114 f_MO_go_c11
  by_cases e : zb (m_slot y.1) = 0
  · rw [if_pos e, if_pos e]
  · rw [if_neg e, if_neg e]
theorem Pc8_eq (y : MS × Int64) (h : P_MO_go_c12 (ms_nextSlot (ms_next y.1 (nx y.1)) false) y.2) : P_MO_go_c8 y := by
  unfold nx at h
  refine ⟨fun e => ?_, fun e => ?_⟩
  · rw [if_pos e] at h
    exact h
  · rw [if_neg e] at h
    exact h
theorem begin_eq (σ : XS) (w : Int32) : f_CO_begin σ w = xs_nextds (xs_nextPc (xs_instr σ w) (if zb (x_inds σ) = 0 then x_pc σ + 4 else x_behind σ)) false := by
  unfold f_CO_begin f_CO_begin_c1 f_CO_begin_26 f_CO_begin_c2
  by_cases e : zb (x_inds σ) = 0
  · rw [if_pos e, if_pos (show zb (x_inds (xs_instr σ w)) = 0 from e), i_CO_begin_c3]
    rfl
  · rw [if_neg e, if_neg (show ¬ zb (x_inds (xs_instr σ w)) = 0 from e), i_CO_begin_c3]
    rfl
theorem go63_ag (h : Rel σ τ) (hf : m_fault τ = -1) (ha : m_hasAddress τ = false) (hr : m_refills τ = false) (hu : m_unit τ = 0) : P_MO_go_63 τ ∧ (f_PR_stepWasFault_c2 σ).2 = (f_MO_go_63 τ).2 ∧ Rel (f_PR_stepWasFault_c2 σ).1 (f_MO_go_63 τ).1 := by
  have hi := int_ag h
  unfold P_MO_go_63 f_MO_go_63 f_PR_stepWasFault_c2
  rw [hi]
  cases hc : f_MO_isCalled τ
  · rw [if_pos (show zb false = 0 by decide), if_pos (show zb false = 0 by decide)]
    have hal := al_ag0 h ha hr (m_pc τ) (w := false) (f := true) (how := 2) (Or.inr (Or.inr ⟨rfl, rfl, rfl⟩)) (b := 4) (m := 3) (B := 4) (Or.inr (Or.inr ⟨rfl, rfl, rfl⟩))
    have key : P_MO_go_c8 (f_MO_aligned τ (m_pc τ) 4 false true) ∧ (f_PR_stepWasFault_c3 (f_PR_fetch σ)).2 = (f_MO_go_c8 (f_MO_aligned τ (m_pc τ) 4 false true)).2 ∧ Rel (f_PR_stepWasFault_c3 (f_PR_fetch σ)).1 (f_MO_go_c8 (f_MO_aligned τ (m_pc τ) 4 false true)).1 := by
      rw [c8_eq]
      unfold f_PR_fetch f_PR_fetch_c1
      rw [R_pc h]
      rcases hal.2 with ⟨p, hp, hpB, e1, e2⟩ | ⟨r, e1, e2, e3, e4, e5⟩
      · rw [e1, e2, if_pos (lge0 hp), lN_i]
        have hA := T_asked h (m_pc τ)
        have hw := wordAt_ag hA hp
        rw [hw, begin_eq]
        have hnx : (if zb (x_inds (xs_asked σ (m_pc τ))) = 0 then x_pc (xs_asked σ (m_pc τ)) + 4 else x_behind (xs_asked σ (m_pc τ))) = nx τ := by
          rw [R_inds hA, R_pc hA, R_behind hA]
          rfl
        rw [hnx]
        have h1 : R1 (xs_nextds (xs_nextPc (xs_instr (xs_asked σ (m_pc τ)) (m_memory τ (p / 4))) (nx τ)) false) (ms_nextSlot (ms_next τ (nx τ)) false) := ⟨T_nextds (T_nextPc (T_instr (T_nextSlot (T_next hA (nx τ)) false) (m_memory τ (p / 4))) (nx τ)) false, rfl, rfl, hf, ha, hr, hu⟩
        have hn : m_slot (ms_nextSlot (ms_next τ (nx τ)) false) = false → m_next (ms_nextSlot (ms_next τ (nx τ)) false) = m_pc (ms_nextSlot (ms_next τ (nx τ)) false) + 4 := by
          intro q
          have q2 : m_slot τ = false := q
          show nx τ = m_pc τ + 4
          unfold nx
          rw [q2]
          rfl
        have hpf := fin56 (perf_ag h1 hn)
        have hPp := P_perform h1
        have hin : x_instr (xs_nextds (xs_nextPc (xs_instr (xs_asked σ (m_pc τ)) (m_memory τ (p / 4))) (nx τ)) false) = m_memory τ (p / 4) := rfl
        rw [hin] at hpf hPp
        have hmem : m_memory (ms_nextSlot (ms_next τ (nx τ)) false) = m_memory τ := rfl
        have hflt : m_fault (ms_nextSlot (ms_next τ (nx τ)) false) = -1 := hf
        refine ⟨Pc8_eq _ ⟨fun q => absurd q ?_, fun _ => ⟨?_, ?_, ?_⟩⟩, ?_⟩
        · show ¬ 0 ≤ m_fault (ms_nextSlot (ms_next τ (nx τ)) false)
          rw [hflt]
          decide
        · show vp_in ((Int64.toInt32 (lN p)) / (4 : Int32)) 65536
          rw [lN_i, d4 hp]
          exact nI_in (by omega) (by omega)
        · show P_MO_perform (ms_nextSlot (ms_next τ (nx τ)) false) (m_memory (ms_nextSlot (ms_next τ (nx τ)) false) (Int32.toNatClampNeg ((Int64.toInt32 (lN p)) / (4 : Int32))))
          rw [lN_i, d4 hp, nI_clamp (by omega), hmem]
          exact hPp
        · show P_MO_go_142 (f_MO_perform (ms_nextSlot (ms_next τ (nx τ)) false) (m_memory (ms_nextSlot (ms_next τ (nx τ)) false) (Int32.toNatClampNeg ((Int64.toInt32 (lN p)) / (4 : Int32)))))
          rw [lN_i, d4 hp, nI_clamp (by omega), hmem]
          exact hpf.1
        · unfold f_PR_stepWasFault_c3 f_PR_fetch_c2 f_MO_go_c12
          rw [if_pos rfl, hflt, if_neg (show ¬ (0 : Int32) ≤ -1 by decide), lN_i, d4 hp, nI_clamp (by omega), hmem]
          unfold f_PR_stepWasFault_c4 f_MO_go_c13
          exact hpf.2
      · have hpos := Fa_pos e4
        rw [if_neg e2, e3]
        have hge : 0 ≤ m_fault (ms_nextSlot (ms_next (f_MO_aligned τ (m_pc τ) 4 false true).1 (nx (f_MO_aligned τ (m_pc τ) 4 false true).1)) false) := Int32.not_lt.mp hpos.1
        have hP : Post ((f_AS_locateAligned σ (m_pc τ) 2 3).1, r) (ms_nextSlot (ms_next (f_MO_aligned τ (m_pc τ) 4 false true).1 (nx (f_MO_aligned τ (m_pc τ) 4 false true).1)) false) := by
          rw [e1]
          exact Or.inr ⟨T_nextSlot (T_next (T_asked e5 (m_pc τ)) _) false, e4⟩
        have hpf := fin56 hP
        refine ⟨Pc8_eq _ ⟨fun _ => hpf.1, fun q => absurd hge q⟩, ?_⟩
        unfold f_PR_stepWasFault_c3 f_MO_go_c12
        rw [if_pos hge, if_neg hpos.2]
        exact hpf.2
    refine ⟨⟨fun _ => ⟨hal.1, key.1⟩, fun q => absurd (show zb false = 0 by decide) q⟩, key.2⟩
  · rw [if_neg (show ¬ zb true = 0 by decide), if_neg (show ¬ zb true = 0 by decide)]
    have he := ent_ag (T_fault h 0) (r := 0) (Or.inl ⟨ha, hr, rfl, Or.inl rfl⟩)
    exact ⟨⟨fun q => absurd q (by decide), fun _ => ⟨he.1, trivial⟩⟩, rfl, he.2⟩
theorem step_ag (h : Rel σ τ) : P_MO_go τ ∧ (f_PR_stepWasFault σ).2 = (f_MO_go τ).2 ∧ Rel (f_PR_stepWasFault σ).1 (f_MO_go τ).1 := by
  have h2 : Rel (xs_steps σ (m_steps τ + 1)) (ms_unit (ms_refills (ms_hasAddress (ms_fault (ms_steps τ (m_steps τ + 1)) (-1)) false) false) 0) := T_unit (T_refills (T_hasAddress (T_fault (U_steps h (m_steps τ + 1)) (-1)) false) false) 0
  have hP : ∀ q, P_MO_go_c5 (ms_unit (ms_refills (ms_hasAddress (ms_fault (ms_steps τ (m_steps τ + 1)) (-1)) false) false) 0) ∧ q → P_MO_go τ ∧ q := fun q z => z
  apply hP
  unfold f_PR_stepWasFault f_MO_go f_MO_go_c1 f_MO_go_c2 f_MO_go_c3 f_MO_go_c4
  rw [R_steps h]
  have hf : m_fault (ms_unit (ms_refills (ms_hasAddress (ms_fault (ms_steps τ (m_steps τ + 1)) (-1)) false) false) 0) = -1 := rfl
  have ha : m_hasAddress (ms_unit (ms_refills (ms_hasAddress (ms_fault (ms_steps τ (m_steps τ + 1)) (-1)) false) false) 0) = false := rfl
  have hr : m_refills (ms_unit (ms_refills (ms_hasAddress (ms_fault (ms_steps τ (m_steps τ + 1)) (-1)) false) false) 0) = false := rfl
  have hu : m_unit (ms_unit (ms_refills (ms_hasAddress (ms_fault (ms_steps τ (m_steps τ + 1)) (-1)) false) false) 0) = 0 := rfl
  generalize xs_steps σ (m_steps τ + 1) = σ2 at h2
  generalize ms_unit (ms_refills (ms_hasAddress (ms_fault (ms_steps τ (m_steps τ + 1)) (-1)) false) false) 0 = τ2 at h2 hf ha hr hu
  unfold f_PR_stepWasFault_c1 f_SR_tick f_SR_tick_c1 f_MO_go_c5 f_MO_go_c6 P_MO_go_c5 P_MO_go_c6 f_MO_go_c7 P_MO_go_c7
  rw [R_values h2, c9, c11]
  have h3 := U_values h2 (upd (m_sys τ2) 9 (m_sys τ2 9 + 1)) (sok_upd (R_sok h2) _ (by decide) (by decide) (by decide))
  generalize upd (m_sys τ2) 9 (m_sys τ2 9 + 1) = F at h3
  by_cases e : F 9 = F 11
  · rw [if_pos (show x_values (xs_values σ2 F) 9 = x_values (xs_values σ2 F) 11 from e), if_pos (show m_sys (ms_sys τ2 F) 9 = m_sys (ms_sys τ2 F) 11 from e), i_SR_tick_c2]
    have hg := go63_ag (U_timer h3 true) hf ha hr hu
    exact ⟨⟨fun _ => hg.1, fun q => absurd e q⟩, hg.2⟩
  · rw [if_neg (show ¬ x_values (xs_values σ2 F) 9 = x_values (xs_values σ2 F) 11 from e), if_neg (show ¬ m_sys (ms_sys τ2 F) 9 = m_sys (ms_sys τ2 F) 11 from e)]
    have hg := go63_ag h3 hf ha hr hu
    exact ⟨⟨fun q => absurd q e, fun _ => hg.1⟩, hg.2⟩
theorem steps_ag (a : Int32) : ∀ (n : Nat) (σ : XS) (τ : MS) (v k : Int32), Rel σ τ → P_MO_step_26 n τ a v k ∧ ∃ σ' : XS, (n ≠ 0 → f_PM_step_26 n σ a v k = .inl (σ', (f_MO_step_26 n τ a v k).2)) ∧ (n = 0 → f_PM_step_26 n σ a v k = .inl (σ', (f_MO_step_26 n τ a v k).2)) ∧ Rel σ' (f_MO_step_26 n τ a v k).1
  | 0, σ, τ, v, k, h => ⟨trivial, σ, fun q => absurd rfl q, fun _ => rfl, h⟩
  | n + 1, σ, τ, v, k, h => by
    have hs := step_ag h
    rw [P_MO_step_26, f_PM_step_26, f_MO_step_26]
    by_cases e : a ≤ v
    · rw [if_pos e, if_pos e]
      exact ⟨⟨fun _ => trivial, fun q => absurd e q⟩, σ, fun _ => rfl, fun q => absurd q (by omega), h⟩
    · rw [if_neg e, if_neg e, hs.2.1]
      have h0 := steps_ag a n _ _ (v + 1) k hs.2.2
      have h1 := steps_ag a n _ _ (v + 1) (k + 1) hs.2.2
      by_cases e2 : zb (f_MO_go τ).2 = 0
      · rw [if_pos e2, if_pos e2, Int32.add_zero]
        obtain ⟨hp, σ', q1, q2, q3⟩ := h0
        refine ⟨⟨fun q => absurd q e, fun _ => ⟨hs.1, fun _ => hp, fun q => absurd e2 q⟩⟩, σ', fun _ => ?_, fun q => absurd q (by omega), q3⟩
        by_cases hn : n = 0
        · exact q2 hn
        · exact q1 hn
      · rw [if_neg e2, if_neg e2]
        obtain ⟨hp, σ', q1, q2, q3⟩ := h1
        refine ⟨⟨fun q => absurd q e, fun _ => ⟨hs.1, fun q => absurd q e2, fun _ => hp⟩⟩, σ', fun _ => ?_, fun q => absurd q (by omega), q3⟩
        by_cases hn : n = 0
        · exact q2 hn
        · exact q1 hn
end STP
