section TLB
variable {σ : XS} {τ : MS}
theorem nk {k j : Nat} (hk : k < 2 ^ 31) (hj : j < 2 ^ 31) : ¬ k = j → ¬ nI k = nI j := fun h e => h ((nI_eq hk hj).1 e)
theorem write_ag (h : Rel σ τ) {k : Nat} (hk : k < 32) (v : Int32) : ∃ f t, sysOK f ∧ f_SR_write σ (nI k) v = xs_timer (xs_values σ f) t ∧ f_MO_write τ (nI k) v = ms_timer (ms_sys τ f) t := by
  unfold f_SR_write f_MO_write
  rw [bits_ag k hk, and31n hk, nI_clamp (by omega), R_values h]
  have hs := R_sok h
  have ht := R_timer h
  have hF0 : sysOK (upd (m_sys τ) k ((m_sys τ k &&& (wbI k ^^^ (-1 : Int32))) ||| (v &&& wbI k))) := by
    by_cases e1 : k = 1
    · subst e1
      have ew : wbI 1 = 0 := by decide
      have e2 : (m_sys τ 1 &&& ((0 : Int32) ^^^ (-1 : Int32))) ||| (v &&& 0) = m_sys τ 1 := by
        rw [show ((0 : Int32) ^^^ (-1 : Int32)) = -1 by decide]
        simp
      obtain ⟨j, hj, e3⟩ := hs.1
      rw [ew, e2, e3]
      exact sok_1 hs hj
    · by_cases e2 : k = 2
      · subst e2
        exact sok_2 hs (m26or _ _ hs.2.1)
      · by_cases e3 : k = 3
        · subst e3
          exact sok_3 hs (m26or _ _ hs.2.2)
        · exact sok_upd hs _ e1 e2 e3
  generalize hF : upd (m_sys τ) k ((m_sys τ k &&& (wbI k ^^^ (-1 : Int32))) ||| (v &&& wbI k)) = F at hF0
  unfold f_SR_write_c1 f_MO_write_c1 f_MO_write_c2 f_MO_write_39 f_MO_write_c3 f_MO_write_53 f_MO_write_c4 f_SR_write_c4 f_SR_write_c3 f_SR_write_c2
  by_cases e0 : k = 0
  · subst e0
    rw [if_pos (show nI 0 = 0 by decide), if_pos (show nI 0 = 0 by decide), if_neg (show ¬ nI 0 = 6 by decide), if_neg (show ¬ nI 0 = 11 by decide)]
    have e1 : F 0 &&& wbI 0 = v &&& 31 := by
      rw [← hF, pk_us]
      exact idx31 _ _
    refine ⟨upd F 0 (v &&& 31), m_timer τ, sok_upd hF0 _ (by decide) (by decide) (by decide), ?_, ?_⟩
    · rw [xv, c0, e1, xs_vv, ← ht, xs_vt]
    · rw [mv, c0, ms_vv, ms_vt]
  · rw [if_neg (show ¬ nI k = 0 from nk (j := 0) (by omega) (by omega) e0), if_neg (show ¬ nI k = 0 from nk (j := 0) (by omega) (by omega) e0)]
    by_cases e6 : k = 6
    · subst e6
      rw [if_pos (show nI 6 = 6 by decide), if_pos (show nI 6 = 6 by decide), if_neg (show ¬ nI 6 = 11 by decide)]
      refine ⟨upd F 1 31, m_timer τ, sok_1 hF0 (k := 31) (by decide), ?_, ?_⟩
      · rw [xv, c1, xs_vv, ← ht, xs_vt]
      · rw [mv, c1, ms_vv, ms_vt]
    · rw [if_neg (show ¬ nI k = 6 from nk (j := 6) (by omega) (by omega) e6), if_neg (show ¬ nI k = 6 from nk (j := 6) (by omega) (by omega) e6)]
      by_cases e11 : k = 11
      · subst e11
        rw [if_pos (show nI 11 = 11 by decide), if_pos (show nI 11 = 11 by decide)]
        exact ⟨F, false, hF0, rfl, rfl⟩
      · rw [if_neg (show ¬ nI k = 11 from nk (j := 11) (by omega) (by omega) e11), if_neg (show ¬ nI k = 11 from nk (j := 11) (by omega) (by omega) e11)]
        refine ⟨F, m_timer τ, hF0, ?_, ?_⟩
        · rw [← ht, xs_vt]
        · rw [ms_vt]
def Gf (P : Nat → Bool) : Nat → Nat → Int32
  | 0, _ => -1
  | n + 1, j => if P j then nI j else Gf P n (j + 1)
def Pm (τ : MS) (page : Int32) (j : Nat) : Bool := decide (m_pages τ j = page) && (m_all τ j || decide (m_spaces τ j = m_sys τ 10 &&& (255 : Int32)))
theorem Gf_r (P : Nat → Bool) : ∀ n j, Gf P n j = -1 ∨ ∃ e, e < j + n ∧ Gf P n j = nI e
  | 0, _ => Or.inl rfl
  | n + 1, j => by
    rw [Gf]
    by_cases h : P j = true
    · rw [if_pos h]
      exact Or.inr ⟨j, by omega, rfl⟩
    · rw [if_neg h]
      rcases Gf_r P n (j + 1) with h2 | ⟨e, he, h2⟩
      · exact Or.inl h2
      · exact Or.inr ⟨e, by omega, h2⟩
theorem tl_loop (h : Rel σ τ) (a b page : Int32) : ∀ n j, j + n = 32 → f_TL_match_16 (n + 1) σ a b (nI j) (m_sys τ 10 &&& (255 : Int32)) page = Gf (Pm τ page) n j
  | 0, j, e => by
    have : j = 32 := by omega
    subst this
    rw [f_TL_match_16, if_pos (by decide)]
    rfl
  | n + 1, j, e => by
    rw [f_TL_match_16, if_neg (show ¬ (32 : Int32) ≤ nI j from nI_ge (b := 32) (by omega) (by omega)), nI_clamp (by omega), R_pages h, R_asids h, R_glob h, nI_1, Gf, tl_loop h a b page n (j + 1) (by omega)]
    unfold Pm
    by_cases e1 : m_pages τ j = page
    · cases e2 : m_all τ j
      · by_cases e3 : m_spaces τ j = m_sys τ 10 &&& (255 : Int32)
        · simp [e1, e3, zb]
        · simp [e1, e3, zb]
      · simp [e1, zb]
    · simp [e1]
theorem mo_matches (τ : MS) (page : Int32) {j : Nat} (hj : j < 32) : f_MO_matches τ (nI j) page = Pm τ page j := by
  unfold f_MO_matches f_MO_matches_39 Pm
  rw [nI_clamp (by omega), c10]
  by_cases e1 : m_pages τ j = page
  · cases e2 : m_all τ j
    · by_cases e3 : m_spaces τ j = m_sys τ 10 &&& (255 : Int32)
      · simp [e1, e3, zb]
      · simp [e1, e3, zb]
    · simp [e1, zb]
  · simp [e1]
theorem mo_loop (τ : MS) (page : Int32) : ∀ e, e < 32 → ∀ found, found = Gf (Pm τ page) (31 - e) (e + 1) → f_MO_entryOf_5 (e + 2) τ page (nI e) found = Gf (Pm τ page) 32 0
  | 0, he, found, hf => by
    have ef : ∀ w, f_MO_entryOf_5 1 τ page (-1) w = w := fun w => by rw [f_MO_entryOf_5, if_pos (by decide)]
    rw [f_MO_entryOf_5, if_neg (show ¬ nI 0 < 0 by decide), mo_matches τ page he, show nI 0 + (-1) = -1 by decide, ef, ef, hf, show Gf (Pm τ page) 32 0 = if Pm τ page 0 then nI 0 else Gf (Pm τ page) 31 1 from rfl]
    cases Pm τ page 0
    · rfl
    · rfl
  | e + 1, he, found, hf => by
    rw [f_MO_entryOf_5, if_neg (nI_pos (by omega)), mo_matches τ page he, pk_m1]
    have e1 : 31 - e = (31 - (e + 1)) + 1 := by omega
    cases hp : Pm τ page (e + 1)
    · rw [if_pos (by decide)]
      refine mo_loop τ page e (by omega) _ ?_
      rw [e1, Gf, hp, if_neg (by decide)]
      exact hf
    · rw [if_neg (by decide)]
      refine mo_loop τ page e (by omega) _ ?_
      rw [e1, Gf, hp, if_pos rfl]
theorem entryOf_eq (τ : MS) (page : Int32) : f_MO_entryOf τ page = Gf (Pm τ page) 32 0 := mo_loop τ page 31 (by decide) (-1) rfl
theorem match_ag (h : Rel σ τ) (a : Int32) : f_TL_match σ a (f_SR_read σ 10) = f_MO_entryOf τ (a &&& (-8192 : Int32)) := by
  rw [entryOf_eq, read_ag h (by decide)]
  unfold f_TL_match f_MO_read
  rw [if_neg (by decide), c10]
  exact tl_loop h a _ _ 32 0 rfl
theorem entryOf_r (τ : MS) (page : Int32) : f_MO_entryOf τ page = -1 ∨ ∃ e, e < 32 ∧ f_MO_entryOf τ page = nI e := by
  rw [entryOf_eq]
  have := Gf_r (Pm τ page) 32 0
  simpa using this
end TLB
