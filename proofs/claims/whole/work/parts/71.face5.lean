section FA5
variable {σ : XS} {τ : MS}
theorem tr_n (σ : XS) (a1 how c : Int32) (hc : c = 1 ∨ c = 2 ∨ c = 3 ∨ c = 4 ∨ c = 5 ∨ c = 6 ∨ c = 7) (hL : f_AS_locate σ a1 how = Int32.toInt64 (-1 - c)) : f_PM_translate_19 σ a1 how = .inl (σ, (-1 : Int64) - Int32.toInt64 c) := by
  obtain ⟨n1, n2⟩ := ng c (by rcases hc with rfl | rfl | rfl | rfl | rfl | rfl | rfl <;> decide)
  have h1 : f_FA_isRefill σ c = false := by
    unfold f_FA_isRefill
    rcases hc with rfl | rfl | rfl | rfl | rfl | rfl | rfl <;> decide
  have h2 : Int32.toInt64 ((-1 : Int32) - f_FA_codeOf σ c) = (-1 : Int64) - Int32.toInt64 c := by
    unfold f_FA_codeOf
    rcases hc with rfl | rfl | rfl | rfl | rfl | rfl | rfl <;> decide
  unfold f_PM_translate_19 f_PM_translate_57
  rw [hL, if_pos (Int32.not_le.mp n1), n2, h1, if_pos (show zb false = 0 by decide), h2]
theorem tr_r (σ : XS) (a1 how c : Int32) (hc : c = 2 ∨ c = 3) (hL : f_AS_locate σ a1 how = Int32.toInt64 (-1 - (c + 16))) : f_PM_translate_19 σ a1 how = .inl (σ, (-101 : Int64) - Int32.toInt64 c) := by
  obtain ⟨n1, n2⟩ := ng (c + 16) (by rcases hc with rfl | rfl <;> decide)
  have h1 : f_FA_isRefill σ (c + 16) = true := by
    unfold f_FA_isRefill
    rcases hc with rfl | rfl <;> decide
  have h2 : Int32.toInt64 ((-101 : Int32) - f_FA_codeOf σ (c + 16)) = (-101 : Int64) - Int32.toInt64 c := by
    unfold f_FA_codeOf
    rcases hc with rfl | rfl <;> decide
  unfold f_PM_translate_19 f_PM_translate_57
  rw [hL, if_pos (Int32.not_le.mp n1), n2, h1, if_neg (show ¬ zb true = 0 by decide), h2]
theorem c5n (τ : MS) (x : Int64) (a1 a2 c : Int32) (hf : m_fault τ = c) (h0 : 0 ≤ c) (hr : m_refills τ = false) : f_MO_translate_c5 (τ, x) a1 a2 = (τ, (-1 : Int64) - Int32.toInt64 c) := by
  unfold f_MO_translate_c5
  simp only [hf, hr]
  rw [if_pos h0, if_pos (show zb false = 0 by decide)]
theorem c5r (τ : MS) (x : Int64) (a1 a2 c : Int32) (hf : m_fault τ = c) (h0 : 0 ≤ c) (hr : m_refills τ = true) : f_MO_translate_c5 (τ, x) a1 a2 = (τ, (-101 : Int64) - Int32.toInt64 c) := by
  unfold f_MO_translate_c5
  simp only [hf, hr]
  rw [if_pos h0, if_neg (show ¬ zb true = 0 by decide)]
theorem tr_ag (h : Rel σ τ) (hf : m_fault τ = -1) (hr : m_refills τ = false) (ht : m_thrown τ = 0) (a1 a2 : Int32) {w : Bool} {how : Int32} (hw : HW w false how) : P_MO_translate_43 τ a1 a2 w ∧ ∃ v τ', f_PM_translate_19 σ a1 how = .inl (σ, v) ∧ f_MO_translate_43 τ a1 a2 w = (τ', v) ∧ m_thrown τ' = 0 ∧ Rel σ τ' := by
  obtain ⟨hp, hl⟩ := loc_ag h a1 hw
  refine ⟨⟨hp, ⟨fun _ => ⟨fun _ => trivial, fun _ => trivial⟩, fun _ => trivial⟩⟩, ?_⟩
  unfold f_MO_translate_43
  rcases hl with ⟨p, hp1, _, hL, hM⟩ | ⟨c, hc, hL, hM⟩ | ⟨c, hc, hL, hM⟩ | ⟨c, hc, hL, hM⟩
  · have e0 : ¬ lg_cmp (lN p) 0 < 0 := by
      rw [lg_cmp_lt, show (0 : Int64) = lN 0 from rfl, pk_lLT (by omega) (by omega)]
      omega
    refine ⟨lN p, τ, ?_, ?_, ht, h⟩
    · unfold f_PM_translate_19
      rw [hL, if_neg e0]
    · rw [hM]
      unfold f_MO_translate_c5
      simp only [hf]
      rw [if_neg (show ¬ (0 : Int32) ≤ -1 by decide)]
  · refine ⟨_, ms_fault τ c, tr_n σ a1 how c (by rcases hc with rfl | rfl <;> decide) hL, ?_, ht, T_fault h c⟩
    rw [hM]
    exact c5n _ _ _ _ c rfl (by rcases hc with rfl | rfl <;> decide) hr
  · refine ⟨_, (f_MO_wrong τ c a1).1, tr_n σ a1 how c (by rcases hc with rfl | rfl | rfl | rfl | rfl <;> decide) hL, ?_, ht, wr_rel h c a1⟩
    rw [hM]
    exact c5n _ _ _ _ c rfl (by rcases hc with rfl | rfl | rfl | rfl | rfl <;> decide) rfl
  · refine ⟨_, ms_refills (f_MO_wrong τ c a1).1 true, tr_r σ a1 how c hc hL, ?_, ht, T_refills (wr_rel h c a1) true⟩
    rw [hM]
    exact c5r _ _ _ _ c rfl (by rcases hc with rfl | rfl <;> decide) rfl
theorem S_translate : Sm_translate Rel := by
  intro u τ a1 a2 h
  have hT := T_thrown h 0
  have hT2 := T_refills (T_fault hT (-1)) false
  have hm : f_MO_translate τ a1 a2 = f_MO_translate_c1 (ms_thrown τ 0) a1 a2 := rfl
  have hP : P_MO_translate_c1 (ms_thrown τ 0) a1 a2 → P_MO_translate τ a1 a2 := fun q => q
  rw [hm]
  have good : ∀ w, f_PM_translate u.1 a1 a2 = f_PM_translate_19 u.1 a1 a2 → HW w false a2 → f_MO_within (ms_thrown τ 0) a2 0 1 = true → (∀ x y : Prop, (w = true → x) → (w = false → y) → ((a2 = 1 → x) ∧ (¬ a2 = 1 → y))) → f_MO_translate_c3 (ms_refills (ms_fault (ms_thrown τ 0) (-1)) false) a1 a2 = f_MO_translate_43 (ms_refills (ms_fault (ms_thrown τ 0) (-1)) false) a1 a2 w → (P_MO_translate τ a1 a2 ∧ m_thrown (f_MO_translate_c1 (ms_thrown τ 0) a1 a2).1 = (h_translate u a1 a2).2 ∧ ((h_translate u a1 a2).2 = 0 → (h_translate u a1 a2).1.2 0 = (f_MO_translate_c1 (ms_thrown τ 0) a1 a2).2) ∧ Rel (h_translate u a1 a2).1.1 (f_MO_translate_c1 (ms_thrown τ 0) a1 a2).1) := by
    intro w hc hw hwi hd h3
    obtain ⟨hp, v, τ', q1, q2, q3, q4⟩ := tr_ag hT2 rfl rfl rfl a1 a2 hw
    have hz : ¬ zb (f_MO_within (ms_thrown τ 0) a2 0 1) = 0 := by
      rw [hwi]
      decide
    have hmm : f_MO_translate_c1 (ms_thrown τ 0) a1 a2 = (τ', v) := by
      unfold f_MO_translate_c1 f_MO_translate_c2
      rw [if_neg hz, h3, q2]
    unfold h_translate
    rw [hc, q1, hmm]
    refine ⟨hP ⟨fun q => absurd q hz, fun _ => hd _ _ (fun e => ?_) (fun e => ?_)⟩, q3, fun _ => (show vp_updL u.2 0 v 0 = v from pk_uLs), q4⟩
    · rw [e] at hp
      exact hp
    · rw [e] at hp
      exact hp
  by_cases e0 : a2 = 0
  · subst e0
    refine good false ?_ (Or.inl ⟨rfl, rfl, rfl⟩) ?_ (fun x y _ hy => ⟨fun q => absurd q (by decide), fun _ => hy rfl⟩) ?_
    · unfold f_PM_translate
      rw [if_pos rfl]
    · rw [wi_cases]
      decide
    · unfold f_MO_translate_c3
      rw [if_neg (show ¬ (0 : Int32) = 1 by decide)]
  · by_cases e1 : a2 = 1
    · subst e1
      refine good true ?_ (Or.inr (Or.inl ⟨rfl, rfl, rfl⟩)) ?_ (fun x y hx _ => ⟨fun _ => hx rfl, fun q => absurd rfl q⟩) ?_
      · unfold f_PM_translate
        rw [if_neg e0, if_pos rfl]
      · rw [wi_cases]
        decide
      · unfold f_MO_translate_c3
        rw [if_pos rfl]
    · have hwi : f_MO_within (ms_thrown τ 0) a2 0 1 = false := by
        cases hw : f_MO_within (ms_thrown τ 0) a2 0 1
        · rfl
        · obtain ⟨k, hk, rfl⟩ := wi_of (n := 1) (by decide) hw
          match k, hk with
          | 0, _ => exact absurd rfl e0
          | 1, _ => exact absurd rfl e1
          | n + 2, hk => exact absurd hk (by omega)
      have hc : f_PM_translate u.1 a1 a2 = .inr nIA := by
        unfold f_PM_translate
        rw [if_neg e0, if_neg e1]
      have hmm : f_MO_translate_c1 (ms_thrown τ 0) a1 a2 = (ms_thrown (ms_thrown τ 0) 1, 0) := by
        unfold f_MO_translate_c1
        rw [hwi, if_pos (show zb false = 0 by decide)]
        rfl
      unfold h_translate
      rw [hc, hmm]
      refine ⟨hP ⟨fun _ => trivial, fun q => ?_⟩, rfl, fun q => absurd (show (1 : Int32) = 0 from q) (by decide), T_thrown hT 1⟩
      rw [hwi] at q
      exact absurd (show zb false = 0 by decide) q
theorem rel0 : Rel x0 m0 := by
  refine ⟨rfl, rfl, rfl, rfl, rfl, rfl, rfl, rfl, rfl, rfl, rfl, rfl, rfl, rfl, fun _ => rfl, fun _ => rfl, fun _ => rfl, ?_, rfl, ⟨⟨31, by omega, ?_⟩, ?_, ?_⟩, fun _ => ?_⟩
  · show (0 : Int32) = lnB (fun _ => false)
    decide
  · show upd (upd (fun _ => 0) (Int32.toNatClampNeg (1 : Int32)) (31 : Int32)) (Int32.toNatClampNeg (15 : Int32)) (98304 : Int32) 1 = nI 31
    decide
  · show upd (upd (fun _ => 0) (Int32.toNatClampNeg (1 : Int32)) (31 : Int32)) (Int32.toNatClampNeg (15 : Int32)) (98304 : Int32) 2 &&& (67108863 : Int32) = upd (upd (fun _ => 0) (Int32.toNatClampNeg (1 : Int32)) (31 : Int32)) (Int32.toNatClampNeg (15 : Int32)) (98304 : Int32) 2
    decide
  · show upd (upd (fun _ => 0) (Int32.toNatClampNeg (1 : Int32)) (31 : Int32)) (Int32.toNatClampNeg (15 : Int32)) (98304 : Int32) 3 &&& (67108863 : Int32) = upd (upd (fun _ => 0) (Int32.toNatClampNeg (1 : Int32)) (31 : Int32)) (Int32.toNatClampNeg (15 : Int32)) (98304 : Int32) 3
    decide
  · show (0 : Int32) &&& (67108862 : Int32) = 0
    decide
theorem sims : SIMs Rel := ⟨S_poke, S_peek, S_set, S_get, S_line, S_step, S_entry, S_translate, S_handler, S_count⟩
end FA5
