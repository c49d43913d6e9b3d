section BRS
variable {σ : XS} {τ : MS}
theorem put_m (τ : MS) (a v : Int32) : m_pc (f_MO_put τ a v) = m_pc τ ∧ m_next (f_MO_put τ a v) = m_next τ ∧ m_slot (f_MO_put τ a v) = m_slot τ := by
  unfold f_MO_put f_MO_put_14 f_MO_put_c1
  by_cases e : a = 0
  · rw [if_pos e]
    exact ⟨rfl, rfl, rfl⟩
  · rw [if_neg e]
    exact ⟨rfl, rfl, rfl⟩
theorem put_goB (σ : XS) (a x v : Int32) : f_CO_put (f_CO_goBehindSlotTo σ v) a x = (f_CO_goBehindSlotTo (f_CO_put σ a x).1 v, -1) := by
  unfold f_CO_put f_CO_put_c1 f_CO_goBehindSlotTo f_CO_goBehindSlotTo_c1 f_CO_goBehindSlotTo_c2
  by_cases e : a &&& (31 : Int32) = 0
  · rw [if_pos e, if_pos e]
  · rw [if_neg e, if_neg e]
    unfold xs_behind xs_nextds xs_regs
    rfl
theorem put_goA (σ : XS) (a x v : Int32) : f_CO_put (f_CO_goAtOnceTo σ v) a x = (f_CO_goAtOnceTo (f_CO_put σ a x).1 v, -1) := by
  unfold f_CO_put f_CO_put_c1 f_CO_goAtOnceTo f_CO_goAtOnceTo_c1
  by_cases e : a &&& (31 : Int32) = 0
  · rw [if_pos e, if_pos e]
  · rw [if_neg e, if_neg e]
    unfold xs_nextPc xs_regs
    rfl
theorem put_x (σ : XS) (a x : Int32) : x_pc (f_CO_put σ a x).1 = x_pc σ ∧ x_inds (f_CO_put σ a x).1 = x_inds σ ∧ x_instr (f_CO_put σ a x).1 = x_instr σ := by
  unfold f_CO_put f_CO_put_c1
  by_cases e : a &&& (31 : Int32) = 0
  · rw [if_pos e]
    exact ⟨rfl, rfl, rfl⟩
  · rw [if_neg e]
    exact ⟨rfl, rfl, rfl⟩
theorem goB_ag (h : R1 σ τ) (hn : m_next τ = m_pc τ + 4) (v : Int32) : R1 (f_CO_goBehindSlotTo σ v) (f_MO_branch_36 τ true 0 false v) := by
  unfold f_CO_goBehindSlotTo f_CO_goBehindSlotTo_c1 f_CO_goBehindSlotTo_c2 f_MO_branch_36 f_MO_branch_c2 f_MO_branch_c3 f_MO_branch_c4
  refine ⟨T_nextds (T_nextSlot (T_next (U_behind h.1 v) _) true) true, ?_, rfl, h.2.2.2⟩
  show x_nextPc σ = m_pc τ + 4
  rw [h.2.1, hn]
theorem goA_ag (h : R1 σ τ) (v : Int32) : R1 (f_CO_goAtOnceTo σ v) (ms_next τ v) := ⟨T_nextPc (T_next h.1 v) v, rfl, h.2.2⟩
theorem br_eq (τ : MS) (g l : Bool) (v : Int32) : f_MO_branch τ g v l = if g then f_MO_branch_36 τ true 0 false v else if l then ms_next τ (m_pc τ + 8) else f_MO_branch_36 τ true 0 false (m_pc τ + 8) := by
  cases g <;> cases l <;> rfl
theorem bx_eq (σ : XS) (g l : Bool) : f_BR_branch σ g l = if g then f_CO_goBehindSlotTo σ (((x_pc σ) + (4 : Int32)) + ((4 : Int32) * (f_CO_signedImmediate σ))) else if l then f_CO_goAtOnceTo σ (x_pc σ + 8) else f_CO_goBehindSlotTo σ (x_pc σ + 8) := by
  cases g <;> cases l <;> rfl
theorem br_ag (h : R1 σ τ) (hn : m_next τ = m_pc τ + 4) (g l : Bool) {v : Int32} (hv : v = ((m_pc τ) + (4 : Int32)) + ((4 : Int32) * (f_CO_signedImmediate σ))) : R1 (f_BR_branch σ g l) (f_MO_branch τ g v l) := by
  rw [br_eq, bx_eq, R_pc h.1, ← hv]
  cases g
  · cases l
    · exact goB_ag h hn _
    · exact goA_ag h _
  · exact goB_ag h hn _
theorem put_br (σ : XS) (a x : Int32) (g l : Bool) : f_CO_put (f_BR_branch σ g l) a x = (f_BR_branch (f_CO_put σ a x).1 g l, -1) := by
  rw [bx_eq, bx_eq, (put_x σ a x).1]
  have e : f_CO_signedImmediate (f_CO_put σ a x).1 = f_CO_signedImmediate σ := by
    unfold f_CO_signedImmediate
    rw [(put_x σ a x).2.2]
  rw [e]
  cases g
  · cases l
    · exact put_goB _ _ _ _
    · exact put_goA _ _ _ _
  · exact put_goB _ _ _ _
theorem R1_hi (h : R1 σ τ) (v : Int32) : R1 (xs_hi σ v) (ms_hi τ v) := ⟨U_hi h.1 v, h.2⟩
theorem R1_lo (h : R1 σ τ) (v : Int32) : R1 (xs_lo σ v) (ms_lo τ v) := ⟨U_lo h.1 v, h.2⟩
theorem Post_both (h : R1 σ τ) {v w : Int64} (e : v = w) : Post (f_CO_putProduct σ v) (f_MO_setBoth τ w) := by
  subst e
  exact Or.inl ⟨rfl, R1_lo (R1_hi h _) _⟩
theorem Post_div (h : R1 σ τ) (s t : Int64) : Post (f_AR_divide σ s t) (if lg_cmp t 0 = 0 then τ else ms_hi (ms_lo τ (Int64.toInt32 (s / t))) (Int64.toInt32 (s - s / t * t))) := by
  unfold f_AR_divide f_AR_divide_c1 f_AR_divide_c2
  by_cases e : lg_cmp t 0 = 0
  · rw [if_pos e, if_pos e]
    exact Post_ok h
  · rw [if_neg e, if_neg e]
    exact Or.inl ⟨rfl, R1_hi (R1_lo h _) _⟩
theorem Post_chk (h : R1 σ τ) {a : Int32} (ha : a &&& (31 : Int32) = a) (v : Int64) : Post (f_AR_putChecked σ a v) (if lg_cmp v (Int32.toInt64 (Int64.toInt32 v)) = 0 then f_MO_put τ a (Int64.toInt32 v) else (f_MO_raise τ 12).1) := by
  unfold f_AR_putChecked f_AR_putChecked_c1
  by_cases e : lg_cmp v (Int32.toInt64 (Int64.toInt32 v)) = 0
  · rw [if_pos e, if_pos e]
    exact Post_put h ha rfl
  · rw [if_neg e, if_neg e]
    exact Post_raise h (by decide)
theorem Post_trap (h : R1 σ τ) {k : Int32} (hk : k = 0 ∨ k = 1 ∨ k = 2 ∨ k = 3 ∨ k = 4 ∨ k = 5 ∨ k = 6 ∨ k = 7) (t : Int32) : Post (σ, f_AR_trap σ k t) (f_MO_trap τ (if k = 5 ∨ k = 7 then -1 else k) (f_CO_s σ) t) ∧ Post (σ, f_AR_trap σ k t) (f_MO_trap τ k (f_CO_s σ) t) := by
  have hr := Post_raise h (c := 13) (by decide)
  have hi := Post_raise h (c := 10) (by decide)
  have ho := Post_ok h
  generalize hs : f_CO_s σ = s
  have hb : f_AR_plainlyBelow σ s t = f_MO_isBelow τ s t := rfl
  rcases hk with rfl | rfl | rfl | rfl | rfl | rfl | rfl | rfl
  all_goals simp (decide := true) only [f_AR_trap, f_AR_trap_62, f_AR_trap_79, f_AR_trap_93, f_AR_trap_116, f_AR_trap_130, f_FA_trapIf, f_MO_trap, f_MO_trap_97, f_MO_trap_114, f_MO_trap_c1, f_MO_trap_c2, reduceIte, hs, hb, or_true, true_or, or_false, or_self]
  · by_cases e : s < t
    · simp only [if_pos e]
      exact ⟨ho, ho⟩
    · simp only [if_neg e]
      exact ⟨hr, hr⟩
  · cases f_MO_isBelow τ s t
    · exact ⟨hr, hr⟩
    · exact ⟨ho, ho⟩
  · by_cases e : t ≤ s
    · simp only [if_pos e]
      exact ⟨ho, ho⟩
    · simp only [if_neg e]
      exact ⟨hr, hr⟩
  · cases f_MO_isBelow τ s t
    · exact ⟨ho, ho⟩
    · exact ⟨hr, hr⟩
  · by_cases e : s = t
    · simp only [if_pos e]
      exact ⟨hr, hr⟩
    · simp only [if_neg e]
      exact ⟨ho, ho⟩
  · by_cases e : s = t
    · simp only [if_pos e]
      exact ⟨hi, hi⟩
    · simp only [if_neg e]
      exact ⟨hi, hi⟩
  · by_cases e : s = t
    · simp only [if_pos e]
      exact ⟨ho, ho⟩
    · simp only [if_neg e]
      exact ⟨hr, hr⟩
  · by_cases e : s = t
    · simp only [if_pos e]
      exact ⟨hi, hi⟩
    · simp only [if_neg e]
      exact ⟨hi, hi⟩
end BRS
