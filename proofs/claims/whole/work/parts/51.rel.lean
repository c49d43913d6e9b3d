def lnB (f : Nat → Bool) : Int32 := (if f 0 then 1 else 0) ||| (if f 1 then 2 else 0) ||| (if f 2 then 4 else 0) ||| (if f 3 then 8 else 0) ||| (if f 4 then 16 else 0) ||| (if f 5 then 32 else 0)
def sysOK (g : Nat → Int32) : Prop := (∃ k : Nat, k < 32 ∧ g 1 = nI k) ∧ g 2 &&& (67108863 : Int32) = g 2 ∧ g 3 &&& (67108863 : Int32) = g 3
def Rel (σ : XS) (τ : MS) : Prop := (x_words σ = m_memory τ) ∧ (x_regs σ = m_r τ) ∧ (x_hi σ = m_hi τ) ∧ (x_lo σ = m_lo τ) ∧ (x_pc σ = m_pc τ) ∧ (x_link σ = m_link τ) ∧ (x_inds σ = m_slot τ) ∧ (x_behind σ = m_target τ) ∧ (x_values σ = m_sys τ) ∧ (x_timer σ = m_timer τ) ∧ (x_steps σ = m_steps τ) ∧ (x_fbc σ = m_faults τ) ∧ (x_pages σ = m_pages τ) ∧ (x_asids σ = m_spaces τ) ∧ (∀ j, x_globals σ j = zb (m_all τ j)) ∧ (∀ j, x_even σ j = m_halves τ (2 * j)) ∧ (∀ j, x_odd σ j = m_halves τ (2 * j + 1)) ∧ (x_lines σ = lnB (m_lines τ)) ∧ (m_r τ 0 = 0) ∧ (sysOK (m_sys τ)) ∧ (∀ j, m_halves τ j &&& (67108862 : Int32) = m_halves τ j)
section REL
variable {σ : XS} {τ : MS}
theorem R_words (h : Rel σ τ) : x_words σ = m_memory τ := h.1
theorem R_regs (h : Rel σ τ) : x_regs σ = m_r τ := h.2.1
theorem R_hi (h : Rel σ τ) : x_hi σ = m_hi τ := h.2.2.1
theorem R_lo (h : Rel σ τ) : x_lo σ = m_lo τ := h.2.2.2.1
theorem R_pc (h : Rel σ τ) : x_pc σ = m_pc τ := h.2.2.2.2.1
theorem R_link (h : Rel σ τ) : x_link σ = m_link τ := h.2.2.2.2.2.1
theorem R_inds (h : Rel σ τ) : x_inds σ = m_slot τ := h.2.2.2.2.2.2.1
theorem R_behind (h : Rel σ τ) : x_behind σ = m_target τ := h.2.2.2.2.2.2.2.1
theorem R_values (h : Rel σ τ) : x_values σ = m_sys τ := h.2.2.2.2.2.2.2.2.1
theorem R_timer (h : Rel σ τ) : x_timer σ = m_timer τ := h.2.2.2.2.2.2.2.2.2.1
theorem R_steps (h : Rel σ τ) : x_steps σ = m_steps τ := h.2.2.2.2.2.2.2.2.2.2.1
theorem R_fbc (h : Rel σ τ) : x_fbc σ = m_faults τ := h.2.2.2.2.2.2.2.2.2.2.2.1
theorem R_pages (h : Rel σ τ) : x_pages σ = m_pages τ := h.2.2.2.2.2.2.2.2.2.2.2.2.1
theorem R_asids (h : Rel σ τ) : x_asids σ = m_spaces τ := h.2.2.2.2.2.2.2.2.2.2.2.2.2.1
theorem R_glob (h : Rel σ τ) : ∀ j, x_globals σ j = zb (m_all τ j) := h.2.2.2.2.2.2.2.2.2.2.2.2.2.2.1
theorem R_even (h : Rel σ τ) : ∀ j, x_even σ j = m_halves τ (2 * j) := h.2.2.2.2.2.2.2.2.2.2.2.2.2.2.2.1
theorem R_odd (h : Rel σ τ) : ∀ j, x_odd σ j = m_halves τ (2 * j + 1) := h.2.2.2.2.2.2.2.2.2.2.2.2.2.2.2.2.1
theorem R_lines (h : Rel σ τ) : x_lines σ = lnB (m_lines τ) := h.2.2.2.2.2.2.2.2.2.2.2.2.2.2.2.2.2.1
theorem R_r0 (h : Rel σ τ) : m_r τ 0 = 0 := h.2.2.2.2.2.2.2.2.2.2.2.2.2.2.2.2.2.2.1
theorem R_sok (h : Rel σ τ) : sysOK (m_sys τ) := h.2.2.2.2.2.2.2.2.2.2.2.2.2.2.2.2.2.2.2.1
theorem R_hok (h : Rel σ τ) : ∀ j, m_halves τ j &&& (67108862 : Int32) = m_halves τ j := h.2.2.2.2.2.2.2.2.2.2.2.2.2.2.2.2.2.2.2.2
theorem U_hi (h : Rel σ τ) (v : Int32) : Rel (xs_hi σ v) (ms_hi τ v) := by
  obtain ⟨r0, r1, r2, r3, r4, r5, r6, r7, r8, r9, r10, r11, r12, r13, r14, r15, r16, r17, r18, r19, r20⟩ := h
  exact ⟨r0, r1, rfl, r3, r4, r5, r6, r7, r8, r9, r10, r11, r12, r13, r14, r15, r16, r17, r18, r19, r20⟩
theorem U_lo (h : Rel σ τ) (v : Int32) : Rel (xs_lo σ v) (ms_lo τ v) := by
  obtain ⟨r0, r1, r2, r3, r4, r5, r6, r7, r8, r9, r10, r11, r12, r13, r14, r15, r16, r17, r18, r19, r20⟩ := h
  exact ⟨r0, r1, r2, rfl, r4, r5, r6, r7, r8, r9, r10, r11, r12, r13, r14, r15, r16, r17, r18, r19, r20⟩
theorem U_pc (h : Rel σ τ) (v : Int32) : Rel (xs_pc σ v) (ms_pc τ v) := by
  obtain ⟨r0, r1, r2, r3, r4, r5, r6, r7, r8, r9, r10, r11, r12, r13, r14, r15, r16, r17, r18, r19, r20⟩ := h
  exact ⟨r0, r1, r2, r3, rfl, r5, r6, r7, r8, r9, r10, r11, r12, r13, r14, r15, r16, r17, r18, r19, r20⟩
theorem U_link (h : Rel σ τ) (v : Int32) : Rel (xs_link σ v) (ms_link τ v) := by
  obtain ⟨r0, r1, r2, r3, r4, r5, r6, r7, r8, r9, r10, r11, r12, r13, r14, r15, r16, r17, r18, r19, r20⟩ := h
  exact ⟨r0, r1, r2, r3, r4, rfl, r6, r7, r8, r9, r10, r11, r12, r13, r14, r15, r16, r17, r18, r19, r20⟩
theorem U_inds (h : Rel σ τ) (v : Bool) : Rel (xs_inds σ v) (ms_slot τ v) := by
  obtain ⟨r0, r1, r2, r3, r4, r5, r6, r7, r8, r9, r10, r11, r12, r13, r14, r15, r16, r17, r18, r19, r20⟩ := h
  exact ⟨r0, r1, r2, r3, r4, r5, rfl, r7, r8, r9, r10, r11, r12, r13, r14, r15, r16, r17, r18, r19, r20⟩
theorem U_behind (h : Rel σ τ) (v : Int32) : Rel (xs_behind σ v) (ms_target τ v) := by
  obtain ⟨r0, r1, r2, r3, r4, r5, r6, r7, r8, r9, r10, r11, r12, r13, r14, r15, r16, r17, r18, r19, r20⟩ := h
  exact ⟨r0, r1, r2, r3, r4, r5, r6, rfl, r8, r9, r10, r11, r12, r13, r14, r15, r16, r17, r18, r19, r20⟩
theorem U_timer (h : Rel σ τ) (v : Bool) : Rel (xs_timer σ v) (ms_timer τ v) := by
  obtain ⟨r0, r1, r2, r3, r4, r5, r6, r7, r8, r9, r10, r11, r12, r13, r14, r15, r16, r17, r18, r19, r20⟩ := h
  exact ⟨r0, r1, r2, r3, r4, r5, r6, r7, r8, rfl, r10, r11, r12, r13, r14, r15, r16, r17, r18, r19, r20⟩
theorem U_steps (h : Rel σ τ) (v : Int32) : Rel (xs_steps σ v) (ms_steps τ v) := by
  obtain ⟨r0, r1, r2, r3, r4, r5, r6, r7, r8, r9, r10, r11, r12, r13, r14, r15, r16, r17, r18, r19, r20⟩ := h
  exact ⟨r0, r1, r2, r3, r4, r5, r6, r7, r8, r9, rfl, r11, r12, r13, r14, r15, r16, r17, r18, r19, r20⟩
theorem U_words (h : Rel σ τ) (f : Nat → Int32) : Rel (xs_words σ f) (ms_memory τ f) := by
  obtain ⟨r0, r1, r2, r3, r4, r5, r6, r7, r8, r9, r10, r11, r12, r13, r14, r15, r16, r17, r18, r19, r20⟩ := h
  exact ⟨rfl, r1, r2, r3, r4, r5, r6, r7, r8, r9, r10, r11, r12, r13, r14, r15, r16, r17, r18, r19, r20⟩
theorem U_regs (h : Rel σ τ) (f : Nat → Int32) (h0 : f 0 = 0) : Rel (xs_regs σ f) (ms_r τ f) := by
  obtain ⟨r0, r1, r2, r3, r4, r5, r6, r7, r8, r9, r10, r11, r12, r13, r14, r15, r16, r17, r18, r19, r20⟩ := h
  exact ⟨r0, rfl, r2, r3, r4, r5, r6, r7, r8, r9, r10, r11, r12, r13, r14, r15, r16, r17, h0, r19, r20⟩
theorem U_values (h : Rel σ τ) (f : Nat → Int32) (h0 : sysOK f) : Rel (xs_values σ f) (ms_sys τ f) := by
  obtain ⟨r0, r1, r2, r3, r4, r5, r6, r7, r8, r9, r10, r11, r12, r13, r14, r15, r16, r17, r18, r19, r20⟩ := h
  exact ⟨r0, r1, r2, r3, r4, r5, r6, r7, rfl, r9, r10, r11, r12, r13, r14, r15, r16, r17, r18, h0, r20⟩
theorem U_fbc (h : Rel σ τ) (f : Nat → Int32) : Rel (xs_fbc σ f) (ms_faults τ f) := by
  obtain ⟨r0, r1, r2, r3, r4, r5, r6, r7, r8, r9, r10, r11, r12, r13, r14, r15, r16, r17, r18, r19, r20⟩ := h
  exact ⟨r0, r1, r2, r3, r4, r5, r6, r7, r8, r9, r10, rfl, r12, r13, r14, r15, r16, r17, r18, r19, r20⟩
theorem U_pages (h : Rel σ τ) (f : Nat → Int32) : Rel (xs_pages σ f) (ms_pages τ f) := by
  obtain ⟨r0, r1, r2, r3, r4, r5, r6, r7, r8, r9, r10, r11, r12, r13, r14, r15, r16, r17, r18, r19, r20⟩ := h
  exact ⟨r0, r1, r2, r3, r4, r5, r6, r7, r8, r9, r10, r11, rfl, r13, r14, r15, r16, r17, r18, r19, r20⟩
theorem U_asids (h : Rel σ τ) (f : Nat → Int32) : Rel (xs_asids σ f) (ms_spaces τ f) := by
  obtain ⟨r0, r1, r2, r3, r4, r5, r6, r7, r8, r9, r10, r11, r12, r13, r14, r15, r16, r17, r18, r19, r20⟩ := h
  exact ⟨r0, r1, r2, r3, r4, r5, r6, r7, r8, r9, r10, r11, r12, rfl, r14, r15, r16, r17, r18, r19, r20⟩
theorem U_glob (h : Rel σ τ) (f : Nat → Int32) (g : Nat → Bool) (hg : ∀ j, f j = zb (g j)) : Rel (xs_globals σ f) (ms_all τ g) := by
  obtain ⟨r0, r1, r2, r3, r4, r5, r6, r7, r8, r9, r10, r11, r12, r13, r14, r15, r16, r17, r18, r19, r20⟩ := h
  exact ⟨r0, r1, r2, r3, r4, r5, r6, r7, r8, r9, r10, r11, r12, r13, hg, r15, r16, r17, r18, r19, r20⟩
theorem U_halves (h : Rel σ τ) (f g k : Nat → Int32) (hf : ∀ j, f j = k (2 * j)) (hg : ∀ j, g j = k (2 * j + 1)) (hk : ∀ j, k j &&& (67108862 : Int32) = k j) : Rel (xs_odd (xs_even σ f) g) (ms_halves τ k) := by
  obtain ⟨r0, r1, r2, r3, r4, r5, r6, r7, r8, r9, r10, r11, r12, r13, r14, r15, r16, r17, r18, r19, r20⟩ := h
  exact ⟨r0, r1, r2, r3, r4, r5, r6, r7, r8, r9, r10, r11, r12, r13, r14, hf, hg, r17, r18, r19, hk⟩
theorem U_lines (h : Rel σ τ) (v : Int32) (g : Nat → Bool) (hg : v = lnB g) : Rel (xs_lines σ v) (ms_lines τ g) := by
  obtain ⟨r0, r1, r2, r3, r4, r5, r6, r7, r8, r9, r10, r11, r12, r13, r14, r15, r16, r17, r18, r19, r20⟩ := h
  exact ⟨r0, r1, r2, r3, r4, r5, r6, r7, r8, r9, r10, r11, r12, r13, r14, r15, r16, hg, r18, r19, r20⟩
theorem T_instr (h : Rel σ τ) (v : Int32) : Rel (xs_instr σ v) (τ) := by
  obtain ⟨r0, r1, r2, r3, r4, r5, r6, r7, r8, r9, r10, r11, r12, r13, r14, r15, r16, r17, r18, r19, r20⟩ := h
  exact ⟨r0, r1, r2, r3, r4, r5, r6, r7, r8, r9, r10, r11, r12, r13, r14, r15, r16, r17, r18, r19, r20⟩
theorem T_nextPc (h : Rel σ τ) (v : Int32) : Rel (xs_nextPc σ v) (τ) := by
  obtain ⟨r0, r1, r2, r3, r4, r5, r6, r7, r8, r9, r10, r11, r12, r13, r14, r15, r16, r17, r18, r19, r20⟩ := h
  exact ⟨r0, r1, r2, r3, r4, r5, r6, r7, r8, r9, r10, r11, r12, r13, r14, r15, r16, r17, r18, r19, r20⟩
theorem T_nextds (h : Rel σ τ) (v : Bool) : Rel (xs_nextds σ v) (τ) := by
  obtain ⟨r0, r1, r2, r3, r4, r5, r6, r7, r8, r9, r10, r11, r12, r13, r14, r15, r16, r17, r18, r19, r20⟩ := h
  exact ⟨r0, r1, r2, r3, r4, r5, r6, r7, r8, r9, r10, r11, r12, r13, r14, r15, r16, r17, r18, r19, r20⟩
theorem T_asked (h : Rel σ τ) (v : Int32) : Rel (xs_asked σ v) (τ) := by
  obtain ⟨r0, r1, r2, r3, r4, r5, r6, r7, r8, r9, r10, r11, r12, r13, r14, r15, r16, r17, r18, r19, r20⟩ := h
  exact ⟨r0, r1, r2, r3, r4, r5, r6, r7, r8, r9, r10, r11, r12, r13, r14, r15, r16, r17, r18, r19, r20⟩
theorem T_thrown (h : Rel σ τ) (v : Int32) : Rel (σ) (ms_thrown τ v) := by
  obtain ⟨r0, r1, r2, r3, r4, r5, r6, r7, r8, r9, r10, r11, r12, r13, r14, r15, r16, r17, r18, r19, r20⟩ := h
  exact ⟨r0, r1, r2, r3, r4, r5, r6, r7, r8, r9, r10, r11, r12, r13, r14, r15, r16, r17, r18, r19, r20⟩
theorem T_fault (h : Rel σ τ) (v : Int32) : Rel (σ) (ms_fault τ v) := by
  obtain ⟨r0, r1, r2, r3, r4, r5, r6, r7, r8, r9, r10, r11, r12, r13, r14, r15, r16, r17, r18, r19, r20⟩ := h
  exact ⟨r0, r1, r2, r3, r4, r5, r6, r7, r8, r9, r10, r11, r12, r13, r14, r15, r16, r17, r18, r19, r20⟩
theorem T_faultAt (h : Rel σ τ) (v : Int32) : Rel (σ) (ms_faultAt τ v) := by
  obtain ⟨r0, r1, r2, r3, r4, r5, r6, r7, r8, r9, r10, r11, r12, r13, r14, r15, r16, r17, r18, r19, r20⟩ := h
  exact ⟨r0, r1, r2, r3, r4, r5, r6, r7, r8, r9, r10, r11, r12, r13, r14, r15, r16, r17, r18, r19, r20⟩
theorem T_unit (h : Rel σ τ) (v : Int32) : Rel (σ) (ms_unit τ v) := by
  obtain ⟨r0, r1, r2, r3, r4, r5, r6, r7, r8, r9, r10, r11, r12, r13, r14, r15, r16, r17, r18, r19, r20⟩ := h
  exact ⟨r0, r1, r2, r3, r4, r5, r6, r7, r8, r9, r10, r11, r12, r13, r14, r15, r16, r17, r18, r19, r20⟩
theorem T_next (h : Rel σ τ) (v : Int32) : Rel (σ) (ms_next τ v) := by
  obtain ⟨r0, r1, r2, r3, r4, r5, r6, r7, r8, r9, r10, r11, r12, r13, r14, r15, r16, r17, r18, r19, r20⟩ := h
  exact ⟨r0, r1, r2, r3, r4, r5, r6, r7, r8, r9, r10, r11, r12, r13, r14, r15, r16, r17, r18, r19, r20⟩
theorem T_hasAddress (h : Rel σ τ) (v : Bool) : Rel (σ) (ms_hasAddress τ v) := by
  obtain ⟨r0, r1, r2, r3, r4, r5, r6, r7, r8, r9, r10, r11, r12, r13, r14, r15, r16, r17, r18, r19, r20⟩ := h
  exact ⟨r0, r1, r2, r3, r4, r5, r6, r7, r8, r9, r10, r11, r12, r13, r14, r15, r16, r17, r18, r19, r20⟩
theorem T_refills (h : Rel σ τ) (v : Bool) : Rel (σ) (ms_refills τ v) := by
  obtain ⟨r0, r1, r2, r3, r4, r5, r6, r7, r8, r9, r10, r11, r12, r13, r14, r15, r16, r17, r18, r19, r20⟩ := h
  exact ⟨r0, r1, r2, r3, r4, r5, r6, r7, r8, r9, r10, r11, r12, r13, r14, r15, r16, r17, r18, r19, r20⟩
theorem T_nextSlot (h : Rel σ τ) (v : Bool) : Rel (σ) (ms_nextSlot τ v) := by
  obtain ⟨r0, r1, r2, r3, r4, r5, r6, r7, r8, r9, r10, r11, r12, r13, r14, r15, r16, r17, r18, r19, r20⟩ := h
  exact ⟨r0, r1, r2, r3, r4, r5, r6, r7, r8, r9, r10, r11, r12, r13, r14, r15, r16, r17, r18, r19, r20⟩
theorem xs_vv (σ : XS) (f g : Nat → Int32) : xs_values (xs_values σ f) g = xs_values σ g := by
  unfold xs_values
  rfl
theorem xs_vt (σ : XS) (f : Nat → Int32) : xs_timer (xs_values σ f) (x_timer σ) = xs_values σ f := by
  unfold xs_timer xs_values x_timer
  rfl
theorem ms_vv (τ : MS) (f g : Nat → Int32) : ms_sys (ms_sys τ f) g = ms_sys τ g := by
  unfold ms_sys
  rfl
theorem ms_vt (τ : MS) (f : Nat → Int32) : ms_timer (ms_sys τ f) (m_timer τ) = ms_sys τ f := by
  unfold ms_timer ms_sys m_timer
  rfl
theorem xv (σ : XS) (f : Nat → Int32) : x_values (xs_values σ f) = f := rfl
theorem mv (τ : MS) (f : Nat → Int32) : m_sys (ms_sys τ f) = f := rfl
def R1 (σ : XS) (τ : MS) : Prop := Rel σ τ ∧ x_nextPc σ = m_next τ ∧ x_nextds σ = m_nextSlot τ ∧ m_fault τ = -1 ∧ m_hasAddress τ = false ∧ m_refills τ = false ∧ m_unit τ = 0
def Fa (r a : Int32) (τ : MS) : Prop :=
  (m_hasAddress τ = false ∧ m_refills τ = false ∧ r = m_fault τ ∧ (r = 0 ∨ r = 6 ∨ r = 7 ∨ r = 8 ∨ r = 9 ∨ r = 10 ∨ r = 12 ∨ r = 13)) ∨
  (m_hasAddress τ = false ∧ m_refills τ = false ∧ m_fault τ = 11 ∧ ((r = 11 ∧ m_unit τ = 0) ∨ (r = 43 ∧ m_unit τ = 1) ∨ (r = 75 ∧ m_unit τ = 2) ∨ (r = 107 ∧ m_unit τ = 3))) ∨
  (m_hasAddress τ = true ∧ m_faultAt τ = a ∧ m_refills τ = false ∧ r = m_fault τ ∧ (r = 1 ∨ r = 2 ∨ r = 3 ∨ r = 4 ∨ r = 5)) ∨
  (m_hasAddress τ = true ∧ m_faultAt τ = a ∧ m_refills τ = true ∧ ((r = 18 ∧ m_fault τ = 2) ∨ (r = 19 ∧ m_fault τ = 3)))
def Post (z : XS × Int32) (τ : MS) : Prop := (z.2 = -1 ∧ R1 z.1 τ) ∨ (Rel z.1 τ ∧ Fa z.2 (x_asked z.1) τ)
theorem sok_upd {g : Nat → Int32} (h : sysOK g) {k : Nat} (v : Int32) (h1 : k ≠ 1) (h2 : k ≠ 2) (h3 : k ≠ 3) : sysOK (upd g k v) := by
  unfold sysOK
  rw [pk_un (Ne.symm h1), pk_un (Ne.symm h2), pk_un (Ne.symm h3)]
  exact h
theorem sok_1 {g : Nat → Int32} (h : sysOK g) {k : Nat} (hk : k < 32) : sysOK (upd g 1 (nI k)) := by
  unfold sysOK
  rw [pk_us, pk_un (by decide), pk_un (by decide)]
  exact ⟨⟨k, hk, rfl⟩, h.2⟩
theorem sok_2 {g : Nat → Int32} (h : sysOK g) {v : Int32} (hv : v &&& (67108863 : Int32) = v) : sysOK (upd g 2 v) := by
  unfold sysOK
  rw [pk_un (by decide), pk_us, pk_un (by decide)]
  exact ⟨h.1, hv, h.2.2⟩
theorem sok_3 {g : Nat → Int32} (h : sysOK g) {v : Int32} (hv : v &&& (67108863 : Int32) = v) : sysOK (upd g 3 v) := by
  unfold sysOK
  rw [pk_un (by decide), pk_un (by decide), pk_us]
  exact ⟨h.1, h.2.1, hv⟩
theorem Post_ok (h : R1 σ τ) : Post (σ, -1) τ := Or.inl ⟨rfl, h⟩
theorem Post_raise (h : R1 σ τ) {c : Int32} (hc : c = 0 ∨ c = 6 ∨ c = 7 ∨ c = 8 ∨ c = 9 ∨ c = 10 ∨ c = 12 ∨ c = 13) : Post (σ, c) (f_MO_raise τ c).1 := Or.inr ⟨h.1, Or.inl ⟨h.2.2.2.2.1, h.2.2.2.2.2.1, rfl, hc⟩⟩
theorem cl_and {x : Int32} {k : Nat} {m : Int32} (hm : m.toBitVec.toNat = 2 ^ k - 1) (hk : k ≤ 30) : (x &&& m).toNatClampNeg = x.toBitVec.toNat % 2 ^ k := by
  rw [pk_and x k hm, nI_clamp]
  exact Nat.lt_of_lt_of_le (Nat.mod_lt _ (Nat.two_pow_pos k)) (Nat.pow_le_pow_right (by decide) (by omega))
theorem and31 (x : Int32) : (x &&& (31 : Int32)) &&& (31 : Int32) = x &&& (31 : Int32) := by
  rw [Int32.and_assoc]
  rfl
theorem and31z {a : Int32} (ha : a &&& (31 : Int32) = a) : ∃ k : Nat, k < 32 ∧ a = nI k := by
  obtain ⟨k, hk, e⟩ := pk_andE a (m := 31) 5 (by decide)
  exact ⟨k, hk, ha.symm.trans e⟩
theorem and31n {k : Nat} (hk : k < 32) : nI k &&& (31 : Int32) = nI k := by
  rw [pk_andN (by omega) (m := 31) 5 (by decide), Nat.mod_eq_of_lt hk]
theorem R1_put (h : R1 σ τ) {a : Int32} (v : Int32) (ha : a &&& (31 : Int32) = a) : R1 (f_CO_put σ a v).1 (f_MO_put τ a v) ∧ (f_CO_put σ a v).2 = -1 ∧ x_instr (f_CO_put σ a v).1 = x_instr σ ∧ x_asked (f_CO_put σ a v).1 = x_asked σ := by
  obtain ⟨k, hk, rfl⟩ := and31z ha
  have hr := R_regs h.1
  have h0 := R_r0 h.1
  unfold f_CO_put f_MO_put
  rw [ha]
  by_cases e : k = 0
  · subst e
    rw [if_pos nI_0, if_pos nI_0]
    refine ⟨⟨?_, h.2⟩, rfl, rfl, rfl⟩
    have e2 : upd (m_r τ) (nI 0).toNatClampNeg 0 = m_r τ := by
      funext j
      unfold upd
      by_cases hj : j = (nI 0).toNatClampNeg
      · rw [if_pos hj, hj]
        exact h0.symm
      · rw [if_neg hj]
    have e3 := U_regs h.1 (m_r τ) h0
    unfold f_MO_put_14 f_MO_put_c1
    rw [e2]
    have e4 : xs_regs σ (m_r τ) = σ := by rw [← hr]; rfl
    rw [e4] at e3
    exact e3
  · rw [if_neg (nI_ne0 (by omega) (by omega)), if_neg (nI_ne0 (by omega) (by omega)), hr]
    refine ⟨⟨U_regs h.1 _ ?_, h.2⟩, rfl, rfl, rfl⟩
    rw [nI_clamp (by omega), pk_un (by omega)]
    exact h0
theorem Post_put (h : R1 σ τ) {a v w : Int32} (ha : a &&& (31 : Int32) = a) (hv : v = w) : Post (f_CO_put σ a v) (f_MO_put τ a w) := by
  subst hv
  have h2 := R1_put h v ha
  exact Or.inl ⟨h2.2.1, h2.1⟩
end REL
