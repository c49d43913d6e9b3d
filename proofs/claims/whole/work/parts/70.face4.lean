section FA4
variable {σ : XS} {τ : MS}
theorem S_entry : Sm_entry Rel := by
  intro u τ a1 a2 h
  have hT := T_thrown h 0
  have hm : f_MO_entry τ a1 a2 = f_MO_entry_c1 (ms_thrown τ 0) a1 a2 := rfl
  have hP : P_MO_entry_c1 (ms_thrown τ 0) a1 a2 → P_MO_entry τ a1 a2 := fun q => q
  rw [hm]
  have key : ∀ v, f_PM_entry u.1 a1 a2 = .inl (u.1, v) → f_MO_entry_c1 (ms_thrown τ 0) a1 a2 = (ms_thrown τ 0, v) → P_MO_entry_c1 (ms_thrown τ 0) a1 a2 → (P_MO_entry τ a1 a2 ∧ m_thrown (f_MO_entry_c1 (ms_thrown τ 0) a1 a2).1 = (h_entry u a1 a2).2 ∧ ((h_entry u a1 a2).2 = 0 → (h_entry u a1 a2).1.2 0 = Int32.toInt64 (f_MO_entry_c1 (ms_thrown τ 0) a1 a2).2) ∧ Rel (h_entry u a1 a2).1.1 (f_MO_entry_c1 (ms_thrown τ 0) a1 a2).1) := by
    intro v hc hmm hp
    unfold h_entry
    rw [hc, hmm]
    exact ⟨hP hp, rfl, fun _ => (show vp_updL u.2 0 (Int32.toInt64 v) 0 = Int32.toInt64 v from pk_uLs), hT⟩
  have bad : f_PM_entry u.1 a1 a2 = .inr nIO → (f_MO_within (ms_thrown τ 0) a1 0 31 = false ∨ (f_MO_within (ms_thrown τ 0) a1 0 31 = true ∧ f_MO_within (ms_thrown τ 0) a2 0 4 = false)) → (P_MO_entry τ a1 a2 ∧ m_thrown (f_MO_entry_c1 (ms_thrown τ 0) a1 a2).1 = (h_entry u a1 a2).2 ∧ ((h_entry u a1 a2).2 = 0 → (h_entry u a1 a2).1.2 0 = Int32.toInt64 (f_MO_entry_c1 (ms_thrown τ 0) a1 a2).2) ∧ Rel (h_entry u a1 a2).1.1 (f_MO_entry_c1 (ms_thrown τ 0) a1 a2).1) := by
    intro hc hw
    have hmm : f_MO_entry_c1 (ms_thrown τ 0) a1 a2 = f_MO_fail (ms_thrown τ 0) 1 := by
      unfold f_MO_entry_c1 f_MO_entry_24
      rw [i_MO_entry_c2]
      rcases hw with hw | ⟨hw1, hw2⟩
      · rw [hw, if_pos (show zb false = 0 by decide)]
      · rw [hw1, if_neg (show ¬ zb true = 0 by decide), hw2, if_pos (show zb false = 0 by decide)]
    have hp : P_MO_entry_c1 (ms_thrown τ 0) a1 a2 := by
      rcases hw with hw | ⟨hw1, hw2⟩
      · refine ⟨fun _ => trivial, fun q => ?_⟩
        rw [hw] at q
        exact absurd (show zb false = 0 by decide) q
      · refine ⟨fun _ => trivial, fun _ => ⟨fun _ => trivial, fun q => ?_⟩⟩
        rw [hw2] at q
        exact absurd (show zb false = 0 by decide) q
    unfold h_entry
    rw [hc, hmm]
    exact ⟨hP hp, rfl, fun q => absurd (show (1 : Int32) = 0 from q) (by decide), T_thrown hT 1⟩
  have hc19 : f_PM_entry_19 u.1 a1 a2 = .inr nIO := rfl
  by_cases e1 : a1 < 0
  · refine bad ?_ (Or.inl ?_)
    · unfold f_PM_entry
      rw [if_pos e1, hc19]
    · rw [wi_cases, if_pos e1]
  · by_cases e2 : a1 ≤ 31
    · have hw1 : f_MO_within (ms_thrown τ 0) a1 0 31 = true := by
        rw [wi_cases, if_neg e1, if_pos e2]
      have e3 : ¬ (32 : Int32) ≤ a1 := fun q => (le31 a1).1 q e2
      by_cases e4 : a2 < 0
      · refine bad ?_ (Or.inr ⟨hw1, ?_⟩)
        · unfold f_PM_entry
          rw [if_neg e1, if_neg e3, if_pos e4, hc19]
        · rw [wi_cases, if_pos e4]
      · by_cases e5 : a2 ≤ 4
        · have hw2 : f_MO_within (ms_thrown τ 0) a2 0 4 = true := by
            rw [wi_cases, if_neg e4, if_pos e5]
          have hz1 : ¬ zb (f_MO_within (ms_thrown τ 0) a1 0 31) = 0 := by
            rw [hw1]
            decide
          have hz2 : ¬ zb (f_MO_within (ms_thrown τ 0) a2 0 4) = 0 := by
            rw [hw2]
            decide
          obtain ⟨j, hj, rfl⟩ := wi_of (n := 31) (by decide) hw1
          obtain ⟨i, hi, rfl⟩ := wi_of (n := 4) (by decide) hw2
          have hin : vp_in (nI j) 32 := nI_in (by omega) (by omega)
          have hix : ¬ nI i = 0 → ¬ nI i = 1 → ¬ nI i = 2 → (2 : Int32) * nI j + nI i - 3 = nI (2 * j + i - 3) ∧ 3 ≤ i := by
            intro q0 q1 q2
            have hi3 : 3 ≤ i := by
              match i, q0, q1, q2 with
              | 0, q0, _, _ => exact absurd rfl q0
              | 1, _, q1, _ => exact absurd rfl q1
              | 2, _, _, q2 => exact absurd rfl q2
              | n + 3, _, _, _ => omega
            rw [show (2 : Int32) = nI 2 from rfl, show (3 : Int32) = nI 3 from rfl, pk_mul, nI_add, pk_sub (by omega)]
            exact ⟨rfl, hi3⟩
          have hp : P_MO_entry_c1 (ms_thrown τ 0) (nI j) (nI i) := by
            refine ⟨fun q => absurd q hz1, fun _ => ⟨fun q => absurd q hz2, fun _ => ⟨fun _ => ⟨hin, trivial⟩, fun q0 => ⟨fun _ => ⟨hin, trivial⟩, fun q1 => ⟨fun _ => ⟨hin, fun _ => trivial, fun _ => trivial⟩, fun q2 => ⟨?_, trivial⟩⟩⟩⟩⟩⟩
            rw [(hix q0 q1 q2).1]
            exact nI_in (by omega) (by omega)
          have hcl : (nI j).toNatClampNeg = j := nI_clamp (by omega)
          have hmm0 : f_MO_entry_c1 (ms_thrown τ 0) (nI j) (nI i) = (if nI i = 0 then (ms_thrown τ 0, m_pages τ j) else if nI i = 1 then (ms_thrown τ 0, m_spaces τ j) else if nI i = 2 then (if zb (m_all τ j) = 0 then (ms_thrown τ 0, 0) else (ms_thrown τ 0, 1)) else (ms_thrown τ 0, m_halves τ (Int32.toNatClampNeg ((2 : Int32) * nI j + nI i - 3)))) := by
            unfold f_MO_entry_c1
            rw [if_neg hz1, if_neg hz2, hcl]
            rfl
          have hcc0 : f_PM_entry u.1 (nI j) (nI i) = (if nI i = 0 then .inl (u.1, m_pages τ j) else if nI i = 1 then .inl (u.1, m_spaces τ j) else if nI i = 2 then .inl (u.1, zb (m_all τ j)) else .inl (u.1, if nI i - 3 = 0 then m_halves τ (2 * j) else m_halves τ (2 * j + 1))) := by
            unfold f_PM_entry f_TL_pageOf f_TL_asidOf f_TL_globalOf f_TL_halfOf
            rw [if_neg e1, if_neg e3, if_neg e4, if_pos e5, and31n (by omega), hcl, R_pages h, R_asids h, R_glob h, R_even h, R_odd h]
          match i, hi with
          | 0, _ => exact key _ (by rw [hcc0, if_pos nI_0]) (by rw [hmm0, if_pos nI_0]) hp
          | 1, _ => exact key _ (by rw [hcc0, if_neg (show ¬ nI 1 = 0 by decide), if_pos (show nI 1 = 1 from rfl)]) (by rw [hmm0, if_neg (show ¬ nI 1 = 0 by decide), if_pos (show nI 1 = 1 from rfl)]) hp
          | 2, _ =>
            refine key _ (by rw [hcc0, if_neg (show ¬ nI 2 = 0 by decide), if_neg (show ¬ nI 2 = 1 by decide), if_pos (show nI 2 = 2 from rfl)]) ?_ hp
            rw [hmm0, if_neg (show ¬ nI 2 = 0 by decide), if_neg (show ¬ nI 2 = 1 by decide), if_pos (show nI 2 = 2 from rfl)]
            cases m_all τ j
            · rw [if_pos (show zb false = 0 by decide)]
              rfl
            · rw [if_neg (show ¬ zb true = 0 by decide)]
              rfl
          | 3, _ =>
            refine key (m_halves τ (2 * j)) (by rw [hcc0, if_neg (show ¬ nI 3 = 0 by decide), if_neg (show ¬ nI 3 = 1 by decide), if_neg (show ¬ nI 3 = 2 by decide), if_pos (show nI 3 - 3 = 0 by decide)]) ?_ hp
            rw [hmm0, if_neg (show ¬ nI 3 = 0 by decide), if_neg (show ¬ nI 3 = 1 by decide), if_neg (show ¬ nI 3 = 2 by decide), (hix (by decide) (by decide) (by decide)).1, nI_clamp (by omega)]
            rfl
          | 4, _ =>
            refine key (m_halves τ (2 * j + 1)) (by rw [hcc0, if_neg (show ¬ nI 4 = 0 by decide), if_neg (show ¬ nI 4 = 1 by decide), if_neg (show ¬ nI 4 = 2 by decide), if_neg (show ¬ nI 4 - 3 = 0 by decide)]) ?_ hp
            rw [hmm0, if_neg (show ¬ nI 4 = 0 by decide), if_neg (show ¬ nI 4 = 1 by decide), if_neg (show ¬ nI 4 = 2 by decide), (hix (by decide) (by decide) (by decide)).1, nI_clamp (by omega)]
            rfl
          | n + 5, hi => exact absurd hi (by omega)
        · refine bad ?_ (Or.inr ⟨hw1, ?_⟩)
          · unfold f_PM_entry
            rw [if_neg e1, if_neg e3, if_neg e4, if_neg e5, hc19]
          · rw [wi_cases, if_neg e4, if_neg e5]
    · have e3 : (32 : Int32) ≤ a1 := (le31 a1).2 e2
      refine bad ?_ (Or.inl ?_)
      · unfold f_PM_entry
        rw [if_neg e1, if_pos e3, hc19]
      · rw [wi_cases, if_neg e1, if_neg e2]
theorem S_count : Sm_count Rel := by
  intro u τ a1 h
  have hT := T_thrown h 0
  have hm : f_MO_count τ a1 = f_MO_count_c1 (ms_thrown τ 0) a1 := rfl
  have hP : P_MO_count_c1 (ms_thrown τ 0) a1 → P_MO_count τ a1 := fun q => q
  rw [hm]
  have key : ∀ v, f_PM_count u.1 a1 = .inl (u.1, v) → f_MO_count_c1 (ms_thrown τ 0) a1 = (ms_thrown τ 0, v) → P_MO_count_c1 (ms_thrown τ 0) a1 → (P_MO_count τ a1 ∧ m_thrown (f_MO_count_c1 (ms_thrown τ 0) a1).1 = (h_count u a1).2 ∧ ((h_count u a1).2 = 0 → (h_count u a1).1.2 0 = Int32.toInt64 (f_MO_count_c1 (ms_thrown τ 0) a1).2) ∧ Rel (h_count u a1).1.1 (f_MO_count_c1 (ms_thrown τ 0) a1).1) := by
    intro v hc hmm hp
    unfold h_count
    rw [hc, hmm]
    exact ⟨hP hp, rfl, fun _ => (show vp_updL u.2 0 (Int32.toInt64 v) 0 = Int32.toInt64 v from pk_uLs), hT⟩
  have bad : f_PM_count u.1 a1 = .inr nIO → f_MO_within (ms_thrown τ 0) a1 0 16 = false → (P_MO_count τ a1 ∧ m_thrown (f_MO_count_c1 (ms_thrown τ 0) a1).1 = (h_count u a1).2 ∧ ((h_count u a1).2 = 0 → (h_count u a1).1.2 0 = Int32.toInt64 (f_MO_count_c1 (ms_thrown τ 0) a1).2) ∧ Rel (h_count u a1).1.1 (f_MO_count_c1 (ms_thrown τ 0) a1).1) := by
    intro hc hw
    have hmm : f_MO_count_c1 (ms_thrown τ 0) a1 = f_MO_fail (ms_thrown τ 0) 1 := by
      unfold f_MO_count_c1
      rw [i_MO_count_c2, hw, if_pos (show zb false = 0 by decide)]
    have hp : P_MO_count_c1 (ms_thrown τ 0) a1 := by
      refine ⟨fun _ => trivial, fun q => ?_⟩
      rw [hw] at q
      exact absurd (show zb false = 0 by decide) q
    unfold h_count
    rw [hc, hmm]
    exact ⟨hP hp, rfl, fun q => absurd (show (1 : Int32) = 0 from q) (by decide), T_thrown hT 1⟩
  have hc10 : f_PM_count_10 u.1 a1 = .inr nIO := rfl
  by_cases e1 : a1 < 0
  · refine bad ?_ ?_
    · unfold f_PM_count
      rw [if_pos e1, hc10]
    · rw [wi_cases, if_pos e1]
  · by_cases e2 : a1 ≤ 16
    · have hw : f_MO_within (ms_thrown τ 0) a1 0 16 = true := by
        rw [wi_cases, if_neg e1, if_pos e2]
      have hz : ¬ zb (f_MO_within (ms_thrown τ 0) a1 0 16) = 0 := by
        rw [hw]
        decide
      obtain ⟨k, hk, rfl⟩ := wi_of (n := 16) (by decide) hw
      have hp : (¬ nI k = 0 → ¬ (15 : Int32) ≤ nI k → vp_in (nI k - 1) 14) → P_MO_count_c1 (ms_thrown τ 0) (nI k) := fun hv => ⟨fun q => absurd q hz, fun _ => ⟨fun _ => trivial, fun q0 => ⟨fun _ => ⟨fun _ => ⟨fun _ => trivial, fun _ => trivial⟩, fun _ => trivial⟩, fun q1 => ⟨hv q0 q1, trivial⟩⟩⟩⟩
      have hmm0 : f_MO_count_c1 (ms_thrown τ 0) (nI k) = (if nI k = 0 then (ms_thrown τ 0, m_steps τ) else if (15 : Int32) ≤ nI k then (if nI k = 15 then (if zb (m_slot τ) = 0 then (ms_thrown τ 0, 0) else (ms_thrown τ 0, 1)) else (ms_thrown τ 0, m_link τ)) else (ms_thrown τ 0, m_faults τ (Int32.toNatClampNeg (nI k - 1)))) := by
        unfold f_MO_count_c1
        rw [if_neg hz]
        rfl
      have hcc0 : f_PM_count u.1 (nI k) = (if nI k = 0 then .inl (u.1, m_steps τ) else if nI k = 15 then (if zb (m_slot τ) = 0 then .inl (u.1, 0) else .inl (u.1, 1)) else if nI k = 16 then .inl (u.1, m_link τ) else .inl (u.1, f_PR_faultsWith u.1 (nI k - 1))) := by
        unfold f_PM_count f_PR_steps
        rw [if_neg e1, if_pos e2, R_steps h, R_inds h, R_link h]
      by_cases k0 : k = 0
      · subst k0
        exact key _ (by rw [hcc0, if_pos nI_0]) (by rw [hmm0, if_pos nI_0]) (hp (fun q => absurd rfl q))
      · by_cases k15 : k = 15
        · subst k15
          cases hs : m_slot τ
          · refine key 0 ?_ ?_ (hp (fun _ q => absurd (by decide) q))
            · rw [hcc0, hs]
              rfl
            · rw [hmm0, hs]
              rfl
          · refine key 1 ?_ ?_ (hp (fun _ q => absurd (by decide) q))
            · rw [hcc0, hs]
              rfl
            · rw [hmm0, hs]
              rfl
        · by_cases k16 : k = 16
          · subst k16
            exact key (m_link τ) (by rw [hcc0]; rfl) (by rw [hmm0]; rfl) (hp (fun _ q => absurd (by decide) q))
          · obtain ⟨j, rfl⟩ : ∃ j, k = j + 1 := ⟨k - 1, by omega⟩
            have hj : j < 14 := by omega
            have hpr := nI_pred j
            refine key (m_faults τ j) ?_ ?_ (hp (fun _ _ => by rw [hpr]; exact nI_in hj (by omega)))
            · unfold f_PR_faultsWith at hcc0
              rw [hcc0, if_neg (nI_ne0 (by omega) (by omega)), if_neg (show ¬ nI (j + 1) = 15 from nk (j := 15) (by omega) (by omega) k15), if_neg (show ¬ nI (j + 1) = 16 from nk (j := 16) (by omega) (by omega) k16), hpr, if_neg (nI_pos (by omega)), if_neg (show ¬ (14 : Int32) ≤ nI j from nI_ge (b := 14) hj (by omega)), nI_clamp (by omega), R_fbc h]
            · rw [hmm0, if_neg (nI_ne0 (by omega) (by omega)), if_neg (show ¬ (15 : Int32) ≤ nI (j + 1) from nI_ge (b := 15) (by omega) (by omega)), hpr, nI_clamp (by omega)]
    · refine bad ?_ ?_
      · unfold f_PM_count
        rw [if_neg e1, if_neg e2, hc10]
      · rw [wi_cases, if_neg e1, if_neg e2]
theorem hs_step (σ : XS) (n : Nat) {j : Nat} (hj : j < 7) : f_PM_handler_2 (n + 1) σ (nI j) = f_PM_handler_2 n (xs_words σ (upd (x_words σ) j (rhI j))) (nI (j + 1)) := by
  rw [f_PM_handler_2, if_neg (show ¬ (7 : Int32) ≤ nI j from nI_ge (b := 7) hj (by omega)), nI_clamp (by omega), nI_1, show (4 : Int32) = nI 4 from rfl, pk_mul]
  unfold f_ME_putWord
  rw [i_ME_putWord_c1, me_row _ (by omega), nI_clamp (by omega), show 4 * j / 4 = j by omega]
theorem hw_rel (h : Rel σ τ) (j : Nat) (v : Int32) : Rel (xs_words σ (upd (x_words σ) j v)) (ms_memory τ (upd (m_memory τ) j v)) := by
  rw [R_words h]
  exact U_words h _
theorem S_handler : Sm_handler Rel := by
  intro σ τ h
  have hT := T_thrown h 0
  have e0 := hs_step σ 7 (j := 0) (by omega)
  have hend : ∀ σ, f_PM_handler_2 1 σ (nI 7) = (σ, 7) := fun σ => by
    rw [f_PM_handler_2, if_pos (show (7 : Int32) ≤ nI 7 by decide)]
  have hc : f_PM_handler σ = f_PM_handler_2 8 σ (nI 0) := rfl
  rw [hc, hs_step _ _ (show 0 < 7 by omega), hs_step _ _ (show 0 + 1 < 7 by omega), hs_step _ _ (show 0 + 1 + 1 < 7 by omega), hs_step _ _ (show 0 + 1 + 1 + 1 < 7 by omega), hs_step _ _ (show 0 + 1 + 1 + 1 + 1 < 7 by omega), hs_step _ _ (show 0 + 1 + 1 + 1 + 1 + 1 < 7 by omega), hs_step _ _ (show 0 + 1 + 1 + 1 + 1 + 1 + 1 < 7 by omega), hend]
  have r0 : rhI 0 = (1075519488 : Int32) := rfl
  have n0 : Int32.toNatClampNeg (0 : Int32) = 0 := by decide
  have r1 : rhI 1 = (-1887830016 : Int32) := rfl
  have n1 : Int32.toNatClampNeg (1 : Int32) = 1 := by decide
  have r2 : rhI 2 = (1083838464 : Int32) := rfl
  have n2 : Int32.toNatClampNeg (2 : Int32) = 2 := by decide
  have r3 : rhI 3 = (-1887764476 : Int32) := rfl
  have n3 : Int32.toNatClampNeg (3 : Int32) = 3 := by decide
  have r4 : rhI 4 = (1083906048 : Int32) := rfl
  have n4 : Int32.toNatClampNeg (4 : Int32) = 4 := by decide
  have r5 : rhI 5 = (1107296262 : Int32) := rfl
  have n5 : Int32.toNatClampNeg (5 : Int32) = 5 := by decide
  have r6 : rhI 6 = (1107296280 : Int32) := rfl
  have n6 : Int32.toNatClampNeg (6 : Int32) = 6 := by decide
  unfold f_MO_handler f_MO_handler_c1 f_MO_handler_c2 f_MO_handler_c3 f_MO_handler_c4 f_MO_handler_c5 f_MO_handler_c6 f_MO_handler_c7 f_MO_handler_c8
  simp only [Nat.zero_add, Nat.reduceAdd, r0, r1, r2, r3, r4, r5, r6, n0, n1, n2, n3, n4, n5, n6]
  refine ⟨trivial, ?_⟩
  have h0 := hw_rel hT 0 1075519488
  have h1 := hw_rel h0 1 (-1887830016)
  have h2 := hw_rel h1 2 (1083838464)
  have h3 := hw_rel h2 3 (-1887764476)
  have h4 := hw_rel h3 4 (1083906048)
  have h5 := hw_rel h4 5 (1107296262)
  have h6 := hw_rel h5 6 (1107296280)
  exact h6
end FA4
