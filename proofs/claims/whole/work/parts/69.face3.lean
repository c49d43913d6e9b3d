section FA3
variable {σ : XS} {τ : MS}
theorem S_get : Sm_get Rel := by
  intro u τ a1 a2 h
  have hT := T_thrown h 0
  have hm : f_MO_get τ a1 a2 = f_MO_get_c1 (ms_thrown τ 0) a1 a2 := rfl
  have hP : P_MO_get_c1 (ms_thrown τ 0) a1 a2 → P_MO_get τ a1 a2 := fun q => q
  have hck := check_ag u.1 (ms_thrown τ 0) a1 a2
  rw [hm]
  have key : ∀ v, f_PM_get u.1 a1 a2 = .inl (u.1, v) → f_MO_get_c1 (ms_thrown τ 0) a1 a2 = (ms_thrown τ 0, v) → P_MO_get_c1 (ms_thrown τ 0) a1 a2 → (P_MO_get τ a1 a2 ∧ m_thrown (f_MO_get_c1 (ms_thrown τ 0) a1 a2).1 = (h_get u a1 a2).2 ∧ ((h_get u a1 a2).2 = 0 → (h_get u a1 a2).1.2 0 = Int32.toInt64 (f_MO_get_c1 (ms_thrown τ 0) a1 a2).2) ∧ Rel (h_get u a1 a2).1.1 (f_MO_get_c1 (ms_thrown τ 0) a1 a2).1) := by
    intro v hc hmm hp
    unfold h_get
    rw [hc, hmm]
    exact ⟨hP hp, rfl, fun _ => (show vp_updL u.2 0 (Int32.toInt64 v) 0 = Int32.toInt64 v from pk_uLs), hT⟩
  cases hr : f_MO_isRegister (ms_thrown τ 0) a1 a2
  · have hc : f_PM_get u.1 a1 a2 = .inr nIO := by
      unfold f_PM_get
      rw [hck, hr]
      rfl
    have hmm : f_MO_get_c1 (ms_thrown τ 0) a1 a2 = f_MO_fail (ms_thrown τ 0) 1 := by
      unfold f_MO_get_c1
      rw [hr, if_pos (show zb false = 0 by decide), i_MO_get_c2]
    unfold h_get
    rw [hc, hmm]
    refine ⟨hP ⟨fun _ => trivial, fun q => ?_⟩, rfl, fun q => absurd (show (1 : Int32) = 0 from q) (by decide), T_thrown hT 1⟩
    rw [hr] at q
    exact absurd (show zb false = 0 by decide) q
  · have hz : ¬ zb (f_MO_isRegister (ms_thrown τ 0) a1 a2) = 0 := by
      rw [hr]
      decide
    have hc0 : f_PM_get u.1 a1 a2 = f_PM_get_c1 u.1 a1 a2 := by
      unfold f_PM_get
      rw [hck, hr]
      rfl
    by_cases h1 : a1 = 1
    · subst h1
      rw [isReg1] at hr
      obtain ⟨k, hk, rfl⟩ := wi_of (n := 31) (by decide) hr
      have hin : vp_in (nI k) 32 := nI_in (by omega) (by omega)
      refine key (f_SR_read u.1 (nI k)) ?_ ?_ ⟨fun q => absurd q hz, fun _ => ⟨fun _ => ⟨hin, trivial⟩, fun q => absurd rfl q⟩⟩
      · rw [hc0]
        unfold f_PM_get_c1
        rw [if_pos rfl]
      · unfold f_MO_get_c1
        rw [if_neg hz, if_pos rfl, read_ag hT (and31n (by omega))]
    · have h0 : a1 = 0 := by
        by_cases q : a1 = 0
        · exact q
        · rw [isRegN _ _ q h1] at hr
          exact absurd hr (by decide)
      subst h0
      rw [isReg0] at hr
      obtain ⟨k, hk, rfl⟩ := wi_of (n := 34) (by decide) hr
      have hPP : (¬ nI k = 34 → ¬ nI k = 33 → ¬ nI k = 32 → vp_in (nI k) 32) → P_MO_get_c1 (ms_thrown τ 0) 0 (nI k) := fun hv => ⟨fun q => absurd q hz, fun _ => ⟨fun q => absurd q h1, fun _ => ⟨fun _ => trivial, fun q1 => ⟨fun _ => trivial, fun q2 => ⟨fun _ => trivial, fun q3 => ⟨hv q1 q2 q3, trivial⟩⟩⟩⟩⟩⟩
      by_cases k34 : k = 34
      · subst k34
        refine key (x_pc u.1) ?_ ?_ (hPP (fun q => absurd rfl q))
        · rw [hc0]
          unfold f_PM_get_c1
          simp (decide := true) only [reduceIte]
        · unfold f_MO_get_c1
          rw [if_neg hz, if_neg h1, if_pos (show nI 34 = 34 from rfl), R_pc hT]
      · by_cases k33 : k = 33
        · subst k33
          refine key (x_lo u.1) ?_ ?_ (hPP (fun _ q => absurd rfl q))
          · rw [hc0]
            unfold f_PM_get_c1
            simp (decide := true) only [reduceIte]
          · unfold f_MO_get_c1
            rw [if_neg hz, if_neg h1, if_neg (show ¬ nI 33 = 34 by decide), if_pos (show nI 33 = 33 from rfl), R_lo hT]
        · by_cases k32 : k = 32
          · subst k32
            refine key (x_hi u.1) ?_ ?_ (hPP (fun _ _ q => absurd rfl q))
            · rw [hc0]
              unfold f_PM_get_c1
              simp (decide := true) only [reduceIte]
            · unfold f_MO_get_c1
              rw [if_neg hz, if_neg h1, if_neg (show ¬ nI 32 = 34 by decide), if_neg (show ¬ nI 32 = 33 by decide), if_pos (show nI 32 = 32 from rfl), R_hi hT]
          · have hk31 : k < 32 := by omega
            refine key (f_CO_register u.1 (nI k)) ?_ ?_ (hPP (fun _ _ _ => nI_in hk31 (by omega)))
            · rw [hc0]
              unfold f_PM_get_c1
              simp only [if_neg h1, if_neg (show ¬ nI k = 34 from nk (j := 34) (by omega) (by omega) k34), if_neg (show ¬ nI k = 32 from nk (j := 32) (by omega) (by omega) k32), if_neg (show ¬ nI k = 33 from nk (j := 33) (by omega) (by omega) k33)]
            · unfold f_MO_get_c1 f_CO_register
              simp only [if_neg hz, if_neg h1, if_neg (show ¬ nI k = 34 from nk (j := 34) (by omega) (by omega) k34), if_neg (show ¬ nI k = 32 from nk (j := 32) (by omega) (by omega) k32), if_neg (show ¬ nI k = 33 from nk (j := 33) (by omega) (by omega) k33)]
              rw [and31n hk31, R_regs hT]
theorem ln_0 (f : Nat → Bool) : (lnB f &&& ((1 : Int32) <<< (nI 0 &&& 31)) = 0 ↔ f 0 = false) ∧ lnB f &&& (((1 : Int32) <<< (nI 0 &&& 31)) ^^^ (-1)) = lnB (updB f 0 false) ∧ lnB f ||| ((1 : Int32) <<< (nI 0 &&& 31)) = lnB (updB f 0 true) := by
  unfold lnB updB
  simp (decide := true) only [reduceIte]
  generalize f 0 = b0, f 1 = b1, f 2 = b2, f 3 = b3, f 4 = b4, f 5 = b5
  revert b0 b1 b2 b3 b4 b5
  decide +kernel
theorem ln_1 (f : Nat → Bool) : (lnB f &&& ((1 : Int32) <<< (nI 1 &&& 31)) = 0 ↔ f 1 = false) ∧ lnB f &&& (((1 : Int32) <<< (nI 1 &&& 31)) ^^^ (-1)) = lnB (updB f 1 false) ∧ lnB f ||| ((1 : Int32) <<< (nI 1 &&& 31)) = lnB (updB f 1 true) := by
  unfold lnB updB
  simp (decide := true) only [reduceIte]
  generalize f 0 = b0, f 1 = b1, f 2 = b2, f 3 = b3, f 4 = b4, f 5 = b5
  revert b0 b1 b2 b3 b4 b5
  decide +kernel
theorem ln_2 (f : Nat → Bool) : (lnB f &&& ((1 : Int32) <<< (nI 2 &&& 31)) = 0 ↔ f 2 = false) ∧ lnB f &&& (((1 : Int32) <<< (nI 2 &&& 31)) ^^^ (-1)) = lnB (updB f 2 false) ∧ lnB f ||| ((1 : Int32) <<< (nI 2 &&& 31)) = lnB (updB f 2 true) := by
  unfold lnB updB
  simp (decide := true) only [reduceIte]
  generalize f 0 = b0, f 1 = b1, f 2 = b2, f 3 = b3, f 4 = b4, f 5 = b5
  revert b0 b1 b2 b3 b4 b5
  decide +kernel
theorem ln_3 (f : Nat → Bool) : (lnB f &&& ((1 : Int32) <<< (nI 3 &&& 31)) = 0 ↔ f 3 = false) ∧ lnB f &&& (((1 : Int32) <<< (nI 3 &&& 31)) ^^^ (-1)) = lnB (updB f 3 false) ∧ lnB f ||| ((1 : Int32) <<< (nI 3 &&& 31)) = lnB (updB f 3 true) := by
  unfold lnB updB
  simp (decide := true) only [reduceIte]
  generalize f 0 = b0, f 1 = b1, f 2 = b2, f 3 = b3, f 4 = b4, f 5 = b5
  revert b0 b1 b2 b3 b4 b5
  decide +kernel
theorem ln_4 (f : Nat → Bool) : (lnB f &&& ((1 : Int32) <<< (nI 4 &&& 31)) = 0 ↔ f 4 = false) ∧ lnB f &&& (((1 : Int32) <<< (nI 4 &&& 31)) ^^^ (-1)) = lnB (updB f 4 false) ∧ lnB f ||| ((1 : Int32) <<< (nI 4 &&& 31)) = lnB (updB f 4 true) := by
  unfold lnB updB
  simp (decide := true) only [reduceIte]
  generalize f 0 = b0, f 1 = b1, f 2 = b2, f 3 = b3, f 4 = b4, f 5 = b5
  revert b0 b1 b2 b3 b4 b5
  decide +kernel
theorem ln_5 (f : Nat → Bool) : (lnB f &&& ((1 : Int32) <<< (nI 5 &&& 31)) = 0 ↔ f 5 = false) ∧ lnB f &&& (((1 : Int32) <<< (nI 5 &&& 31)) ^^^ (-1)) = lnB (updB f 5 false) ∧ lnB f ||| ((1 : Int32) <<< (nI 5 &&& 31)) = lnB (updB f 5 true) := by
  unfold lnB updB
  simp (decide := true) only [reduceIte]
  generalize f 0 = b0, f 1 = b1, f 2 = b2, f 3 = b3, f 4 = b4, f 5 = b5
  revert b0 b1 b2 b3 b4 b5
  decide +kernel
theorem ln_k (f : Nat → Bool) {k : Nat} (hk : k < 6) : (lnB f &&& ((1 : Int32) <<< (nI k &&& 31)) = 0 ↔ f k = false) ∧ lnB f &&& (((1 : Int32) <<< (nI k &&& 31)) ^^^ (-1)) = lnB (updB f k false) ∧ lnB f ||| ((1 : Int32) <<< (nI k &&& 31)) = lnB (updB f k true) := by
  match k, hk with
  | 0, _ => exact ln_0 f
  | 1, _ => exact ln_1 f
  | 2, _ => exact ln_2 f
  | 3, _ => exact ln_3 f
  | 4, _ => exact ln_4 f
  | 5, _ => exact ln_5 f
  | n + 6, h => exact absurd h (by omega)
theorem sw_ag (h : Rel σ τ) {k : Nat} (hk : k < 6) (b : Bool) : f_SR_switchLine σ (nI k) b = (xs_lines σ (lnB (updB (m_lines τ) k b)), m_lines τ k) := by
  obtain ⟨h1, h2, h3⟩ := ln_k (m_lines τ) hk
  have h18 : ∀ w, f_SR_switchLine_18 σ (nI k) b ((1 : Int32) <<< (nI k &&& 31)) w = (xs_lines σ (lnB (updB (m_lines τ) k b)), w) := by
    intro w
    unfold f_SR_switchLine_18 f_SR_switchLine_42 f_SR_switchLine_c1
    rw [R_lines h]
    cases b
    · rw [if_pos (show zb false = 0 by decide), h2]
    · rw [if_neg (show ¬ zb true = 0 by decide), h3]
  unfold f_SR_switchLine
  rw [h18, h18, R_lines h]
  by_cases e : m_lines τ k = false
  · rw [if_pos (h1.2 e), e]
  · rw [if_neg (fun q => e (h1.1 q))]
    cases hq : m_lines τ k
    · exact absurd hq e
    · rfl
theorem S_line : Sm_line Rel := by
  intro u τ a1 a2 h
  have hT := T_thrown h 0
  have hm : f_MO_line τ a1 a2 = f_MO_line_c1 (ms_thrown τ 0) a1 a2 := rfl
  have hP : P_MO_line_c1 (ms_thrown τ 0) a1 a2 → P_MO_line τ a1 a2 := fun q => q
  have bad : f_PM_line u.1 a1 a2 = .inr nIO → f_MO_within (ms_thrown τ 0) a1 0 5 = false → (P_MO_line τ a1 a2 ∧ m_thrown (f_MO_line_c1 (ms_thrown τ 0) a1 a2).1 = (h_line u a1 a2).2 ∧ ((h_line u a1 a2).2 = 0 → (h_line u a1 a2).1.2 0 = (if zb (f_MO_line_c1 (ms_thrown τ 0) a1 a2).2 = 0 then (0 : Int64) else 1)) ∧ Rel (h_line u a1 a2).1.1 (f_MO_line_c1 (ms_thrown τ 0) a1 a2).1) := by
    intro hc hw
    have hmm : f_MO_line_c1 (ms_thrown τ 0) a1 a2 = (ms_thrown (ms_thrown τ 0) 1, false) := by
      unfold f_MO_line_c1
      rw [hw, if_pos (show zb false = 0 by decide)]
      rfl
    unfold h_line
    rw [hc, hmm]
    refine ⟨hP ⟨fun _ => ⟨fun _ => trivial, fun _ => trivial⟩, fun q => ?_⟩, rfl, fun q => absurd (show (1 : Int32) = 0 from q) (by decide), T_thrown hT 1⟩
    rw [hw] at q
    exact absurd (show zb false = 0 by decide) q
  rw [hm]
  by_cases e1 : a1 < 0
  · refine bad ?_ ?_
    · unfold f_PM_line
      rw [if_pos e1]
      rfl
    · rw [wi_cases, if_pos e1]
  · by_cases e2 : a1 ≤ 5
    · have hw : f_MO_within (ms_thrown τ 0) a1 0 5 = true := by
        rw [wi_cases, if_neg e1, if_pos e2]
      obtain ⟨k, hk, rfl⟩ := wi_of (n := 5) (by decide) hw
      have hc : f_PM_line u.1 (nI k) a2 = .inl (xs_lines u.1 (lnB (updB (m_lines τ) k a2)), m_lines τ k) := by
        unfold f_PM_line f_PM_line_c1
        rw [if_neg e1, if_pos (show nI k < 6 from nI_lt (b := 6) (by omega) (by omega)), sw_ag h (by omega)]
      have hmm : f_MO_line_c1 (ms_thrown τ 0) (nI k) a2 = (ms_lines (ms_thrown τ 0) (updB (m_lines τ) k a2), m_lines τ k) := by
        unfold f_MO_line_c1 f_MO_line_c2
        rw [hw, if_neg (show ¬ zb true = 0 by decide), nI_clamp (by omega)]
        rfl
      have hin : vp_in (nI k) 6 := nI_in (by omega) (by omega)
      unfold h_line
      rw [hc, hmm]
      refine ⟨hP ⟨fun q => ?_, fun _ => ⟨hin, hin, trivial⟩⟩, rfl, fun _ => (show vp_updL u.2 0 (if zb (m_lines τ k) = 0 then (0 : Int64) else 1) 0 = (if zb (m_lines τ k) = 0 then (0 : Int64) else 1) from pk_uLs), U_lines hT _ _ rfl⟩
      rw [hw] at q
      exact absurd q (by decide)
    · have e3 : ¬ a1 < 6 := by
        rw [Int32.le_iff_toInt_le, show (5 : Int32).toInt = 5 by decide] at e2
        rw [Int32.lt_iff_toInt_lt, show (6 : Int32).toInt = 6 by decide]
        omega
      refine bad ?_ ?_
      · unfold f_PM_line
        rw [if_neg e1, if_neg e3]
        rfl
      · rw [wi_cases, if_neg e1, if_neg e2]
end FA3
