section SYO
variable {σ : XS} {τ : MS}
theorem q_odd_even (σ : XS) (f : Nat → Int32) : x_odd (xs_even σ f) = x_odd σ := id rfl
theorem q_odd_globals (σ : XS) (f : Nat → Int32) : x_odd (xs_globals σ f) = x_odd σ := id rfl
theorem q_odd_asids (σ : XS) (f : Nat → Int32) : x_odd (xs_asids σ f) = x_odd σ := id rfl
theorem q_odd_pages (σ : XS) (f : Nat → Int32) : x_odd (xs_pages σ f) = x_odd σ := id rfl
theorem q_even_globals (σ : XS) (f : Nat → Int32) : x_even (xs_globals σ f) = x_even σ := id rfl
theorem q_even_asids (σ : XS) (f : Nat → Int32) : x_even (xs_asids σ f) = x_even σ := id rfl
theorem q_even_pages (σ : XS) (f : Nat → Int32) : x_even (xs_pages σ f) = x_even σ := id rfl
theorem q_globals_asids (σ : XS) (f : Nat → Int32) : x_globals (xs_asids σ f) = x_globals σ := id rfl
theorem q_globals_pages (σ : XS) (f : Nat → Int32) : x_globals (xs_pages σ f) = x_globals σ := id rfl
theorem q_asids_pages (σ : XS) (f : Nat → Int32) : x_asids (xs_pages σ f) = x_asids σ := id rfl
theorem r_sys_pages (τ : MS) (f : Nat → Int32) : m_sys (ms_pages τ f) = m_sys τ := id rfl
theorem r_sys_spaces (τ : MS) (f : Nat → Int32) : m_sys (ms_spaces τ f) = m_sys τ := id rfl
theorem r_sys_all (τ : MS) (f : Nat → Bool) : m_sys (ms_all τ f) = m_sys τ := id rfl
theorem r_sys_halves (τ : MS) (f : Nat → Int32) : m_sys (ms_halves τ f) = m_sys τ := id rfl
theorem r_halves_all (τ : MS) (f : Nat → Bool) : m_halves (ms_all τ f) = m_halves τ := id rfl
theorem r_halves_spaces (τ : MS) (f : Nat → Int32) : m_halves (ms_spaces τ f) = m_halves τ := id rfl
theorem r_halves_pages (τ : MS) (f : Nat → Int32) : m_halves (ms_pages τ f) = m_halves τ := id rfl
theorem r_halves_sys (τ : MS) (f : Nat → Int32) : m_halves (ms_sys τ f) = m_halves τ := id rfl
theorem r_all_spaces (τ : MS) (f : Nat → Int32) : m_all (ms_spaces τ f) = m_all τ := id rfl
theorem r_all_pages (τ : MS) (f : Nat → Int32) : m_all (ms_pages τ f) = m_all τ := id rfl
theorem r_all_sys (τ : MS) (f : Nat → Int32) : m_all (ms_sys τ f) = m_all τ := id rfl
theorem r_spaces_pages (τ : MS) (f : Nat → Int32) : m_spaces (ms_pages τ f) = m_spaces τ := id rfl
theorem r_hh (τ : MS) (f : Nat → Int32) : m_halves (ms_halves τ f) = f := id rfl
theorem ms_hh (τ : MS) (f g : Nat → Int32) : ms_halves (ms_halves τ f) g = ms_halves τ g := by
  unfold ms_halves
  rfl
theorem rd_k (h : Rel σ τ) {k : Nat} (hk : k < 32) (h13 : k ≠ 13) : f_SR_read σ (nI k) = m_sys τ k := by
  rw [read_ag h (and31n hk)]
  unfold f_MO_read
  rw [if_neg (show ¬ nI k = 13 from fun q => h13 ((nI_eq (by omega) (b := 13) (by omega)).1 q)), nI_clamp (by omega)]
theorem fill_ag (h : R1 σ τ) {E : Int32} {j : Nat} (hj : j < 32) (hE : E &&& (31 : Int32) = nI j) : P_MO_setEntry τ (nI j) ∧ R1 (f_TL_fill σ E (f_SR_read σ 10) (f_SR_read σ 2) (f_SR_read σ 3)) (f_MO_setEntry τ (nI j)) := by
  have e10 : f_SR_read σ 10 = m_sys τ 10 := rd_k h.1 (k := 10) (by decide) (by decide)
  have e2 : f_SR_read σ 2 = m_sys τ 2 := rd_k h.1 (k := 2) (by decide) (by decide)
  have e3 : f_SR_read σ 3 = m_sys τ 3 := rd_k h.1 (k := 3) (by decide) (by decide)
  have i2 : (2 : Int32) * nI j = nI (2 * j) := by
    rw [show (2 : Int32) = nI 2 from rfl, pk_mul]
  have i3 : nI (2 * j) + (1 : Int32) = nI (2 * j + 1) := nI_1 _
  have hin : vp_in (nI j) 32 := nI_in hj (by omega)
  constructor
  · unfold P_MO_setEntry P_MO_setEntry_c1 P_MO_setEntry_c2 P_MO_setEntry_63 P_MO_setEntry_c3 P_MO_setEntry_c4
    rw [i2, i3]
    have h64 : vp_in (nI (2 * j)) 64 := nI_in (by omega) (by omega)
    have h65 : vp_in (nI (2 * j + 1)) 64 := nI_in (by omega) (by omega)
    exact ⟨hin, hin, fun _ => ⟨hin, h64, h65, trivial⟩, fun _ => ⟨hin, h64, h65, trivial⟩⟩
  · have hs := R_sok h.1
    have hlo2 := m26lo _ hs.2.1
    have hlo3 := m26lo _ hs.2.2
    rw [e10, e2, e3]
    simp only [f_TL_fill, f_TL_fill_c1, f_TL_fill_c2, f_TL_fill_c3, f_TL_fill_c4, i_TL_fill_c5, hE, nI_clamp (show j < 2 ^ 31 by omega), q_odd_even, q_odd_globals, q_odd_asids, q_odd_pages, q_even_globals, q_even_asids, q_even_pages, q_globals_asids, q_globals_pages, q_asids_pages]
    have hm : ∀ b : Bool, f_MO_setEntry_63 (ms_spaces (ms_pages τ (upd (m_pages τ) j (m_sys τ 10 &&& -8192))) (upd (m_spaces τ) j (m_sys τ 10 &&& 255))) (nI j) b = ms_halves (ms_all (ms_spaces (ms_pages τ (upd (m_pages τ) j (m_sys τ 10 &&& -8192))) (upd (m_spaces τ) j (m_sys τ 10 &&& 255))) (updB (m_all τ) j b)) (upd (upd (m_halves τ) (2 * j) (m_sys τ 2 &&& -2)) (2 * j + 1) (m_sys τ 3 &&& -2)) := fun b => by
      simp only [f_MO_setEntry_63, f_MO_setEntry_c3, f_MO_setEntry_c4, i_MO_setEntry_c5, i2, i3, nI_clamp (show j < 2 ^ 31 by omega), nI_clamp (show 2 * j < 2 ^ 31 by omega), nI_clamp (show 2 * j + 1 < 2 ^ 31 by omega), c2, c3, r_sys_halves, r_sys_all, r_sys_spaces, r_sys_pages, r_halves_all, r_halves_spaces, r_halves_pages, r_all_spaces, r_all_pages, r_hh, ms_hh]
    have hall : ∀ b : Bool, ((m_sys τ 2 &&& m_sys τ 3) &&& (1 : Int32)) = zb b → R1 (xs_odd (xs_even (xs_globals (xs_asids (xs_pages σ (upd (x_pages σ) j (m_sys τ 10 &&& -8192))) (upd (x_asids σ) j (m_sys τ 10 &&& 255))) (upd (x_globals σ) j (m_sys τ 2 &&& m_sys τ 3 &&& 1))) (upd (x_even σ) j (m_sys τ 2 &&& 67108862))) (upd (x_odd σ) j (m_sys τ 3 &&& 67108862))) (ms_halves (ms_all (ms_spaces (ms_pages τ (upd (m_pages τ) j (m_sys τ 10 &&& -8192))) (upd (m_spaces τ) j (m_sys τ 10 &&& 255))) (updB (m_all τ) j b)) (upd (upd (m_halves τ) (2 * j) (m_sys τ 2 &&& -2)) (2 * j + 1) (m_sys τ 3 &&& -2))) := by
      intro b hb
      rw [R_pages h.1, R_asids h.1, hb]
      have q1 := U_asids (U_pages h.1 (upd (m_pages τ) j (m_sys τ 10 &&& -8192))) (upd (m_spaces τ) j (m_sys τ 10 &&& 255))
      have q2 := U_glob q1 (upd (x_globals σ) j (zb b)) (updB (m_all τ) j b) (fun i => by
        unfold upd updB
        by_cases e : i = j
        · rw [if_pos e, if_pos e]
        · rw [if_neg e, if_neg e]
          exact R_glob h.1 i)
      have q3 := U_halves q2 (upd (x_even σ) j (m_sys τ 2 &&& 67108862)) (upd (x_odd σ) j (m_sys τ 3 &&& 67108862)) (upd (upd (m_halves τ) (2 * j) (m_sys τ 2 &&& -2)) (2 * j + 1) (m_sys τ 3 &&& -2)) (fun i => by
        rw [pk_un (show 2 * i ≠ 2 * j + 1 by omega)]
        by_cases e : i = j
        · subst e
          rw [pk_us, pk_us, hlo2]
        · rw [pk_un e, pk_un (show 2 * i ≠ 2 * j by omega)]
          exact R_even h.1 i) (fun i => by
        by_cases e : i = j
        · subst e
          rw [pk_us, pk_us, hlo3]
        · rw [pk_un e, pk_un (show 2 * i + 1 ≠ 2 * j + 1 by omega), pk_un (show 2 * i + 1 ≠ 2 * j by omega)]
          exact R_odd h.1 i) (fun i => by
        by_cases e : i = 2 * j + 1
        · subst e
          rw [pk_us, ← hlo3]
          exact m26h _
        · rw [pk_un e]
          by_cases e2 : i = 2 * j
          · subst e2
            rw [pk_us, ← hlo2]
            exact m26h _
          · rw [pk_un e2]
            exact R_hok h.1 i)
      exact ⟨q3, h.2⟩
    unfold f_MO_setEntry f_MO_setEntry_c1 f_MO_setEntry_c2
    simp only [c2, c3, c10, nI_clamp (show j < 2 ^ 31 by omega), r_sys_spaces, r_sys_pages, r_spaces_pages, hm]
    by_cases e : ((m_sys τ 2 &&& m_sys τ 3) &&& (1 : Int32)) = 1
    · rw [if_pos e]
      exact hall true e
    · rw [if_neg e]
      refine hall false ?_
      obtain ⟨k, hk, ek⟩ := pk_andE (m_sys τ 2 &&& m_sys τ 3) (m := 1) 1 (by decide)
      have : k = 0 ∨ k = 1 := by omega
      rcases this with rfl | rfl
      · exact ek
      · exact absurd ek e
theorem tlbr_ag (h : R1 σ τ) : P_MO_tables_c3 (ms_sys τ (upd (m_sys τ) 10 (m_pages τ (Int32.toNatClampNeg (m_sys τ 0 &&& (31 : Int32))) ||| m_spaces τ (Int32.toNatClampNeg (m_sys τ 0 &&& (31 : Int32)))))) 1 (m_sys τ 0 &&& (31 : Int32)) ∧ R1 (f_SR_loadEntry σ ((f_TL_pageOf σ (m_sys τ 0)) ||| (f_TL_asidOf σ (m_sys τ 0))) ((f_TL_halfOf σ (m_sys τ 0) (0 : Int32)) ||| (f_TL_globalOf σ (m_sys τ 0))) ((f_TL_halfOf σ (m_sys τ 0) (1 : Int32)) ||| (f_TL_globalOf σ (m_sys τ 0)))) (f_MO_tables_c3 (ms_sys τ (upd (m_sys τ) 10 (m_pages τ (Int32.toNatClampNeg (m_sys τ 0 &&& (31 : Int32))) ||| m_spaces τ (Int32.toNatClampNeg (m_sys τ 0 &&& (31 : Int32)))))) 1 (m_sys τ 0 &&& (31 : Int32))) := by
  obtain ⟨j, hj, ej⟩ := pk_andE (m_sys τ 0) (m := 31) 5 (by decide)
  have hjc : (nI j).toNatClampNeg = j := nI_clamp (by omega)
  have i2 : (2 : Int32) * nI j = nI (2 * j) := by
    rw [show (2 : Int32) = nI 2 from rfl, pk_mul]
  have i3 : nI (2 * j) + (1 : Int32) = nI (2 * j + 1) := nI_1 _
  rw [ej, hjc]
  have hin : vp_in (nI j) 32 := nI_in (by omega) (by omega)
  have h64 : vp_in (nI (2 * j)) 64 := nI_in (by omega) (by omega)
  have h65 : vp_in (nI (2 * j + 1)) 64 := nI_in (by omega) (by omega)
  constructor
  · unfold P_MO_tables_c3 P_MO_tables_62 P_MO_tables_c4
    rw [i2, i3]
    exact ⟨h64, fun _ => ⟨h65, hin, fun _ => trivial, fun _ => trivial⟩, fun _ => ⟨h65, hin, fun _ => trivial, fun _ => trivial⟩⟩
  · unfold f_TL_pageOf f_TL_asidOf f_TL_globalOf f_TL_halfOf
    rw [ej, hjc, if_pos rfl, if_neg (show ¬ (1 : Int32) = 0 by decide), R_pages h.1, R_asids h.1, R_even h.1, R_odd h.1, R_glob h.1]
    simp only [f_SR_loadEntry, f_SR_loadEntry_c1, f_SR_loadEntry_c2, i_SR_loadEntry_c3, c10, c2, c3, xv, xs_vv, R_values h.1]
    have hF : ∀ b : Bool, sysOK (upd (upd (upd (m_sys τ) 10 (m_pages τ j ||| m_spaces τ j)) 2 (m_halves τ (2 * j) ||| zb b)) 3 (m_halves τ (2 * j + 1) ||| zb b)) := fun b => sok_3 (sok_2 (sok_upd (R_sok h.1) _ (by decide) (by decide) (by decide)) (m26z _ _ (R_hok h.1 _))) (m26z _ _ (R_hok h.1 _))
    have hR : ∀ b : Bool, R1 (xs_values σ (upd (upd (upd (m_sys τ) 10 (m_pages τ j ||| m_spaces τ j)) 2 (m_halves τ (2 * j) ||| zb b)) 3 (m_halves τ (2 * j + 1) ||| zb b))) (ms_sys τ (upd (upd (upd (m_sys τ) 10 (m_pages τ j ||| m_spaces τ j)) 2 (m_halves τ (2 * j) ||| zb b)) 3 (m_halves τ (2 * j + 1) ||| zb b))) := fun b => ⟨U_values h.1 _ (hF b), h.2⟩
    simp only [f_MO_tables_c3, f_MO_tables_62, f_MO_tables_c4, f_MO_tables_93, i_MO_tables_c5, i2, i3, hjc, nI_clamp (show 2 * j < 2 ^ 31 by omega), nI_clamp (show 2 * j + 1 < 2 ^ 31 by omega), c2, c3, r_halves_sys, r_all_sys, mv, ms_vv]
    cases hb : m_all τ j
    · simp (decide := true) only [reduceIte]
      exact hR false
    · simp (decide := true) only [reduceIte]
      exact hR true
theorem tab_ag (h : R1 σ τ) (fn : Int32) : P_MO_tables τ fn ∧ Post (f_CP_command σ fn) (f_MO_tables τ fn) := by
  have e0 : f_SR_read σ 0 = m_sys τ 0 := rd_k h.1 (k := 0) (by decide) (by decide)
  have e1 : f_SR_read σ 1 = m_sys τ 1 := rd_k h.1 (k := 1) (by decide) (by decide)
  have e10 : f_SR_read σ 10 = m_sys τ 10 := rd_k h.1 (k := 10) (by decide) (by decide)
  have h1 := tlbr_ag h
  obtain ⟨j, hj, ej⟩ := pk_andE (m_sys τ 0) (m := 31) 5 (by decide)
  have h2 := fill_ag h hj ej
  obtain ⟨q, hq, eq⟩ := (R_sok h.1).1
  have h6 := fill_ag h (E := m_sys τ 1) hq (by rw [eq]; exact and31n hq)
  constructor
  · unfold P_MO_tables
    rw [c0, c1, c10, ej, eq]
    rw [ej] at h1
    have hp : ∀ w, P_MO_tables_175 τ fn w := fun w => trivial
    have h198 : P_MO_tables_198 τ fn := trivial
    have h191 : P_MO_tables_191 τ fn := ⟨fun _ => ⟨fun _ => trivial, fun _ => trivial⟩, fun _ => trivial⟩
    refine ⟨fun hf => ?_, fun _ => ⟨fun _ => ⟨h2.1, trivial⟩, fun _ => ⟨fun _ => ⟨h6.1, trivial⟩, fun _ => ⟨fun _ => ⟨fun _ => hp _, fun _ => hp _⟩, fun _ => ⟨fun _ => h191, fun _ => ⟨fun _ => h191, fun _ => h198⟩⟩⟩⟩⟩⟩
    rw [hf]
    exact h1.1
  · unfold f_CP_command f_MO_tables
    rw [c0, c1, c10, e0, e1]
    by_cases f1 : fn = 1
    · subst f1
      rw [if_pos rfl, if_pos rfl, i_CP_command_c1]
      exact Or.inl ⟨rfl, h1.2⟩
    · rw [if_neg f1, if_neg f1]
      by_cases f2 : fn = 2
      · rw [if_pos f2, if_pos f2, i_CP_command_c2, i_MO_tables_c2, ej]
        exact Or.inl ⟨rfl, h2.2⟩
      · rw [if_neg f2, if_neg f2]
        by_cases f6 : fn = 6
        · rw [if_pos f6, if_pos f6, i_CP_command_c3, i_MO_tables_c1]
          have h7 := h6.2
          rw [← eq] at h7
          exact Or.inl ⟨rfl, h7⟩
        · rw [if_neg f6, if_neg f6]
          by_cases f8 : fn = 8
          · rw [if_pos f8, if_pos f8, i_CP_command_c4]
            unfold f_CP_probe f_CP_probe_c1
            have hm := match_ag h.1 (m_sys τ 10)
            rw [e10] at hm ⊢
            rw [hm]
            have hv : ∀ v, R1 (xs_values σ (upd (x_values σ) (Int32.toNatClampNeg 0) v)) (f_MO_tables_175 τ fn v) := fun v => by
              rw [R_values h.1]
              exact ⟨U_values h.1 _ (sok_upd (R_sok h.1) _ (by decide) (by decide) (by decide)), h.2⟩
            unfold f_SR_noteProbe f_SR_noteProbe_16
            rcases entryOf_r τ (m_sys τ 10 &&& (-8192 : Int32)) with he | ⟨e, he, hE⟩
            · rw [he, if_pos rfl, if_neg (show ¬ (0 : Int32) ≤ -1 by decide), i_SR_noteProbe_c1]
              exact Or.inl ⟨rfl, hv _⟩
            · rw [hE, if_neg (show ¬ nI e = -1 from fun q => absurd (q ▸ nI_pos' (by omega) : (0 : Int32) ≤ -1) (by decide)), if_pos (nI_pos' (by omega)), i_SR_noteProbe_c1]
              exact Or.inl ⟨rfl, hv _⟩
          · rw [if_neg f8, if_neg f8]
            have hsl := R_inds h.1
            rw [hsl]
            unfold f_MO_tables_191 f_MO_tables_198
            by_cases f24 : fn = 24
            · rw [if_pos f24, if_pos f24]
              cases hs : m_slot τ
              · simp (decide := true) only [zb, reduceIte, if_pos f24, i_CP_command_c5]
                unfold f_CP_leaveFault f_SR_leaveFault f_SR_leaveFault_c1 f_CP_leaveFault_c1 f_CP_leaveFault_c2 f_CP_leaveFault_c3 f_CO_goAtOnceTo f_MO_tables_c7 f_MO_tables_c8
                simp only [i_CO_goAtOnceTo_c1, i_MO_tables_c9, xv, c12, c14, R_values h.1]
                rw [pk_un (show 14 ≠ 12 by decide)]
                have hN := T_next h.1 (m_sys τ 14)
                have hF := U_values hN (upd (m_sys τ) 12 (m_sys τ 12 &&& -3)) (sok_upd (R_sok h.1) _ (by decide) (by decide) (by decide))
                exact Or.inl ⟨rfl, U_link (T_nextPc hF (m_sys τ 14)) 0, rfl, h.2.2⟩
              · simp (decide := true) only [zb, reduceIte, i_MO_tables_c10]
                exact Post_raise h (by decide)
            · rw [if_neg f24, if_neg f24]
              by_cases f32 : fn = 32
              · rw [if_pos f32, if_pos f32]
                cases hs : m_slot τ
                · simp (decide := true) only [zb, reduceIte, if_neg f24]
                  exact Post_ok h
                · simp (decide := true) only [zb, reduceIte, i_MO_tables_c10]
                  exact Post_raise h (by decide)
              · rw [if_neg f32, if_neg f32, i_MO_tables_c10]
                exact Post_raise h (by decide)
theorem sys_ag (h : R1 σ τ) {k : Int32} (hop : f_CO_op σ = k) : P_MO_system τ (x_instr σ) k (f_CO_rs σ) (f_CO_rt σ) ∧ Post (f_CP_perform σ) (f_MO_system τ (x_instr σ) k (f_CO_rs σ) (f_CO_rt σ)) := by
  have ht := tab_ag h (f_CO_fn σ)
  have hrt := rtok σ
  have hin := vin31 hrt
  have hfm : x_instr σ &&& (63 : Int32) = f_CO_fn σ := rfl
  have h24 : P_MO_system_24 τ (x_instr σ) k (f_CO_rs σ) (f_CO_rt σ) := ⟨fun _ => trivial, fun _ => ⟨fun _ => ⟨hin, trivial⟩, fun _ => ⟨fun _ => ⟨hin, trivial⟩, fun _ => ⟨fun _ => ⟨ht.1, trivial⟩, fun _ => trivial⟩⟩⟩⟩
  refine ⟨⟨fun _ => h24, fun _ => ⟨fun _ => trivial, fun _ => h24⟩⟩, ?_⟩
  have hmay := may_ag h.1
  have h24f : f_SR_mayUseSystem σ = true → Post (f_CP_perform σ) (f_MO_system_24 τ (x_instr σ) k (f_CO_rs σ) (f_CO_rt σ)) := by
    intro hm
    unfold f_CP_perform f_MO_system_24
    rw [hm, hop, if_neg (show ¬ zb true = 0 by decide), e_rd, hfm, t_eq h.1]
    by_cases k47 : k = 47
    · rw [if_pos k47, if_pos k47]
      exact Post_ok h
    · rw [if_neg k47, if_neg k47]
      by_cases r0 : f_CO_rs σ = 0
      · rw [if_pos r0, r0, if_pos (show (0 : Int32) < 16 by decide), if_pos rfl, i_CP_perform_c1, i_MO_system_c5]
        exact Post_put h hrt (read_ag h.1 (rdok σ))
      · by_cases r4 : f_CO_rs σ = 4
        · simp (decide := true) only [r4, reduceIte, i_MO_system_c4]
          obtain ⟨d, hd, ed⟩ := and31z (rdok σ)
          obtain ⟨f, t, hF, w1, w2⟩ := write_ag h.1 hd (f_CO_t σ)
          rw [ed, w1, w2]
          exact Or.inl ⟨rfl, U_timer (U_values h.1 f hF) t, h.2⟩
        · by_cases r16 : f_CO_rs σ < 16
          · simp only [if_neg r0, if_neg r4, if_pos r16, if_neg (Int32.not_le.mpr r16), i_MO_system_c3]
            exact Post_raise h (by decide)
          · simp only [if_neg r0, if_neg r4, if_neg r16, if_pos (Int32.not_lt.mp r16), i_CP_perform_c3, i_MO_system_c2]
            exact ht.2
  unfold f_MO_system
  cases hu : f_MO_isUser τ
  · rw [hu] at hmay
    rw [if_pos (show zb false = 0 by decide)]
    exact h24f hmay
  · cases h28 : f_MO_isIn τ 28
    · rw [hu, h28] at hmay
      rw [if_neg (show ¬ zb true = 0 by decide), if_pos (show zb false = 0 by decide), i_MO_system_c1]
      unfold f_CP_perform
      rw [hmay, if_pos (show zb (!(true && !false)) = 0 by decide)]
      exact Or.inr ⟨T_fault h.1 11, Or.inr (Or.inl ⟨h.2.2.2.2.1, h.2.2.2.2.2.1, rfl, Or.inl ⟨(by decide : (11 : Int32) + (32 : Int32) * 0 = 11), h.2.2.2.2.2.2⟩⟩)⟩
    · rw [hu, h28] at hmay
      rw [if_neg (show ¬ zb true = 0 by decide), if_neg (show ¬ zb true = 0 by decide)]
      exact h24f hmay
end SYO
