section MOP
variable {σ : XS} {τ : MS}
theorem t_eq (h : Rel σ τ) : m_r τ (Int32.toNatClampNeg (f_CO_rt σ)) = f_CO_t σ := by
  rw [← R_regs h]
  rfl
theorem s_eq (h : Rel σ τ) : m_r τ (Int32.toNatClampNeg (f_CO_rs σ)) = f_CO_s σ := by
  rw [← R_regs h]
  rfl
theorem Pload (τ : MS) {op rt b : Int32} (hrt : vp_in rt 32) {p : Nat} (hp : p < 262144) : P_MO_load τ op rt b (lN p) := by
  have h41 : ∀ v, P_MO_load_41 τ op rt b (lN p) v := fun v => ⟨hrt, fun _ => trivial, fun _ => trivial⟩
  have h25 : ∀ v, P_MO_load_25 τ op rt b (lN p) v := fun v => ⟨fun _ => h41 _, fun _ => h41 _⟩
  exact ⟨Pbytes τ hp _, fun _ => h25 _, fun _ => h25 _⟩
theorem Pkeep (τ : MS) {op rt b : Int32} (hrt : vp_in rt 32) {p : Nat} (hp : p < 262144) : P_MO_keep τ op rt b (lN p) := by
  have h27 : ∀ τ', P_MO_keep_27 τ' op rt b (lN p) := fun τ' => ⟨fun _ => ⟨hrt, trivial⟩, fun _ => trivial⟩
  have h14 : P_MO_keep_14 τ op rt b (lN p) := ⟨hrt, Pstore τ hp _ _, h27 _⟩
  exact ⟨fun _ => ⟨fun _ => h14, fun _ => h27 _⟩, fun _ => h14⟩
theorem Pc2 (τ : MS) {op rt a b : Int32} (w part : Bool) (hrt : vp_in rt 32) {p : Nat} (hp : p < 262144) : P_MO_memories_c2 (τ, lN p) op rt a b part w := ⟨fun _ => ⟨fun _ => ⟨fun _ => ⟨Pload τ hrt hp, trivial⟩, fun _ => ⟨Pkeep τ hrt hp, trivial⟩⟩, fun _ => ⟨Ppartly τ hrt hp, trivial⟩⟩, fun _ => trivial⟩
theorem lge0 {p : Nat} (hp : p < 262144) : 0 ≤ lg_cmp (lN p) 0 := by
  rw [lg_cmp_ge, show (0 : Int64) = lN 0 from rfl, pk_lLE (by omega) (by omega)]
  omega
theorem c2_load (h : R1 σ τ) {op rt a b : Int32} {p : Nat} : f_MO_memories_c2 (τ, lN p) op rt a b false false = f_MO_load τ op rt b (lN p) := by
  unfold f_MO_memories_c2
  rw [h.2.2.2.1, if_pos (show (-1 : Int32) < 0 by decide), if_pos (show zb false = 0 by decide), if_pos (show zb false = 0 by decide)]
  rfl
theorem c2_keep (h : R1 σ τ) {op rt a b : Int32} {p : Nat} : f_MO_memories_c2 (τ, lN p) op rt a b false true = f_MO_keep τ op rt b (lN p) := by
  unfold f_MO_memories_c2
  rw [h.2.2.2.1, if_pos (show (-1 : Int32) < 0 by decide), if_pos (show zb false = 0 by decide), if_neg (show ¬ zb true = 0 by decide)]
  rfl
theorem c2_part (h : R1 σ τ) {op rt a b : Int32} {p : Nat} (w : Bool) : f_MO_memories_c2 (τ, lN p) op rt a b true w = f_MO_partly τ op rt (lN p) := by
  unfold f_MO_memories_c2
  rw [h.2.2.2.1, if_pos (show (-1 : Int32) < 0 by decide), if_neg (show ¬ zb true = 0 by decide)]
  rfl
theorem loadC (σ : XS) {p : Nat} (hp : p < 262144) {op : Int32} (h48 : ¬ op = 48) : f_LS_load_c1 (σ, lN p) op = f_CO_put σ (f_CO_rt σ) (f_LS_loaded σ op (f_ME_wordAt σ (nI p)) (nI p &&& (3 : Int32)) (f_CO_t σ)) := by
  unfold f_LS_load_c1 f_LS_load_54 f_LS_load_c3
  rw [if_pos (lge0 hp), if_neg h48, lN_i]
theorem storeC (σ : XS) {p : Nat} (hp : p < 262144) {op : Int32} (h56 : ¬ op = 56) : f_LS_store_c1 (σ, lN p) op = (f_ME_putWord σ (nI p) (f_LS_stored σ op (f_ME_wordAt σ (nI p)) (nI p &&& (3 : Int32)) (f_CO_t σ)), -1) := by
  unfold f_LS_store_c1 f_LS_store_57 f_LS_store_c2 f_LS_store_90
  rw [if_pos (lge0 hp), if_neg h56, if_neg h56, lN_i]
theorem keepC (τ : MS) {op rt b : Int32} {p : Nat} (h56 : ¬ op = 56) : f_MO_keep τ op rt b (lN p) = f_MO_store τ (lN p) b (m_r τ (Int32.toNatClampNeg rt)) := by
  unfold f_MO_keep f_MO_keep_14 f_MO_keep_c1 f_MO_keep_27
  rw [if_neg h56, if_neg h56]
theorem mm_32 (τ : MS) (rt a : Int32) : f_MO_memories τ 32 rt a = f_MO_memories_159 τ 32 rt a false false 1 := by
  have hwi : f_MO_within τ 32 40 46 = false := by
    unfold f_MO_within
    decide
  simp only [f_MO_memories, f_MO_memories_23, f_MO_memories_29, f_MO_memories_34, f_MO_memories_60, f_MO_memories_65, f_MO_memories_84, f_MO_memories_89, f_MO_memories_132, f_MO_memories_154, hwi, if_pos (show zb false = 0 by decide), if_neg (show ¬ (32 : Int32) = 56 by decide), if_neg (show ¬ (32 : Int32) = 34 by decide), if_neg (show ¬ (32 : Int32) = 38 by decide), if_neg (show ¬ (32 : Int32) = 42 by decide), if_neg (show ¬ (32 : Int32) = 46 by decide), if_pos (show (32 : Int32) < 39 by decide), if_neg (show ¬ (32 : Int32) = 51 by decide), if_neg (show ¬ zb true = 0 by decide), if_pos (show (32 : Int32) = 32 by decide), if_true]
theorem mP_32 (τ : MS) (rt a : Int32) (hp : P_MO_memories_159 τ 32 rt a false false 1) : P_MO_memories τ 32 rt a := by
  have hwi : f_MO_within τ 32 40 46 = false := by
    unfold f_MO_within
    decide
  unfold P_MO_memories
  rw [hwi]
  exact ⟨fun _ => ⟨fun q => absurd q (show ¬ (32 : Int32) = 56 by decide), fun _ => ⟨fun q => absurd q (show ¬ (32 : Int32) = 34 by decide), fun _ => ⟨fun q => absurd q (show ¬ (32 : Int32) = 38 by decide), fun _ => ⟨fun q => absurd q (show ¬ (32 : Int32) = 42 by decide), fun _ => ⟨fun q => absurd q (show ¬ (32 : Int32) = 46 by decide), fun _ => ⟨fun _ => ⟨fun q => absurd q (show ¬ (32 : Int32) = 51 by decide), fun _ => ⟨fun q => absurd q (show ¬ zb true = 0 by decide), fun _ => ⟨fun _ => hp, fun q => absurd (show (32 : Int32) = 32 by decide) q⟩⟩⟩, fun q => absurd (show (32 : Int32) < 39 by decide) q⟩⟩⟩⟩⟩⟩, fun q => absurd (show zb false = 0 by decide) q⟩
theorem mem_32 (h : R1 σ τ) (hop : f_CO_op σ = 32) : P_MO_memories τ 32 (f_CO_rt σ) (f_LS_address σ) ∧ Post (f_LS_load σ) (f_MO_memories τ 32 (f_CO_rt σ) (f_LS_address σ)) := by
  have hal : f_LS_alignmentOf σ 32 = 0 := by
    unfold f_LS_alignmentOf
    decide
  have key : P_MO_memories_159 τ 32 (f_CO_rt σ) (f_LS_address σ) false false 1 ∧ Post (f_LS_load_c1 (f_AS_locateAligned σ (f_LS_address σ) 0 0) 32) (f_MO_memories_159 τ 32 (f_CO_rt σ) (f_LS_address σ) false false 1) := by
    refine mem_ag h (Or.inl ⟨rfl, rfl, rfl⟩) (Or.inl ⟨rfl, rfl, rfl⟩) (fun z => f_LS_load_c1 z 32) (fun z hz => ?_) (fun p hp hpB => ⟨Pc2 τ _ _ (vin31 (rtok σ)) hp, ?_⟩)
    · unfold f_LS_load_c1
      rw [if_neg hz]
    · show Post (f_LS_load_c1 (xs_asked σ (f_LS_address σ), lN p) 32) _
      have hA := R1_asked h (f_LS_address σ)
      have hrt : f_CO_rt (xs_asked σ (f_LS_address σ)) = f_CO_rt σ := rfl
      have htt : f_CO_t (xs_asked σ (f_LS_address σ)) = f_CO_t σ := rfl
      rw [c2_load h, loadC _ hp (by decide), hrt, wordAt_ag hA.1 hp, a3 hp, lo_32]
      unfold f_MO_load f_MO_load_25 f_MO_load_41 f_MO_load_c1
      rw [if_pos (show (32 : Int32) = 32 by decide), if_neg (show ¬ (32 : Int32) = 33 by decide), if_neg (show ¬ (32 : Int32) = 48 by decide), bytesN τ hp (by decide)]
      have hr : p % 4 = 0 ∨ p % 4 = 1 ∨ p % 4 = 2 ∨ p % 4 = 3 := by omega
      rcases hr with hr | hr | hr | hr
      · rw [hr]
        exact Post_put hA (rtok _) (v_LB0 _)
      · rw [hr]
        exact Post_put hA (rtok _) (v_LB1 _)
      · rw [hr]
        exact Post_put hA (rtok _) (v_LB2 _)
      · rw [hr]
        exact Post_put hA (rtok _) (v_LB3 _)
  unfold f_LS_load
  rw [hop, hal, mm_32]
  exact ⟨mP_32 _ _ _ key.1, key.2⟩
theorem mm_33 (τ : MS) (rt a : Int32) : f_MO_memories τ 33 rt a = f_MO_memories_159 τ 33 rt a false false 2 := by
  have hwi : f_MO_within τ 33 40 46 = false := by
    unfold f_MO_within
    decide
  simp only [f_MO_memories, f_MO_memories_23, f_MO_memories_29, f_MO_memories_34, f_MO_memories_60, f_MO_memories_65, f_MO_memories_84, f_MO_memories_89, f_MO_memories_132, f_MO_memories_154, hwi, if_pos (show zb false = 0 by decide), if_neg (show ¬ (33 : Int32) = 56 by decide), if_neg (show ¬ (33 : Int32) = 34 by decide), if_neg (show ¬ (33 : Int32) = 38 by decide), if_neg (show ¬ (33 : Int32) = 42 by decide), if_neg (show ¬ (33 : Int32) = 46 by decide), if_pos (show (33 : Int32) < 39 by decide), if_neg (show ¬ (33 : Int32) = 51 by decide), if_neg (show ¬ zb true = 0 by decide), if_neg (show ¬ (33 : Int32) = 32 by decide), if_neg (show ¬ (33 : Int32) = 36 by decide), if_neg (show ¬ (33 : Int32) = 40 by decide), if_pos (show (33 : Int32) = 33 by decide), if_true]
theorem mP_33 (τ : MS) (rt a : Int32) (hp : P_MO_memories_159 τ 33 rt a false false 2) : P_MO_memories τ 33 rt a := by
  have hwi : f_MO_within τ 33 40 46 = false := by
    unfold f_MO_within
    decide
  unfold P_MO_memories
  rw [hwi]
  exact ⟨fun _ => ⟨fun q => absurd q (show ¬ (33 : Int32) = 56 by decide), fun _ => ⟨fun q => absurd q (show ¬ (33 : Int32) = 34 by decide), fun _ => ⟨fun q => absurd q (show ¬ (33 : Int32) = 38 by decide), fun _ => ⟨fun q => absurd q (show ¬ (33 : Int32) = 42 by decide), fun _ => ⟨fun q => absurd q (show ¬ (33 : Int32) = 46 by decide), fun _ => ⟨fun _ => ⟨fun q => absurd q (show ¬ (33 : Int32) = 51 by decide), fun _ => ⟨fun q => absurd q (show ¬ zb true = 0 by decide), fun _ => ⟨fun q => absurd q (show ¬ (33 : Int32) = 32 by decide), fun _ => ⟨fun q => absurd q (show ¬ (33 : Int32) = 36 by decide), fun _ => ⟨fun q => absurd q (show ¬ (33 : Int32) = 40 by decide), fun _ => ⟨fun _ => ⟨fun _ => hp, fun q => absurd (show (33 : Int32) = 33 by decide) q⟩, fun q => absurd (show zb false = 0 by decide) q⟩⟩⟩⟩⟩⟩, fun q => absurd (show (33 : Int32) < 39 by decide) q⟩⟩⟩⟩⟩⟩, fun q => absurd (show zb false = 0 by decide) q⟩
theorem mem_33 (h : R1 σ τ) (hop : f_CO_op σ = 33) : P_MO_memories τ 33 (f_CO_rt σ) (f_LS_address σ) ∧ Post (f_LS_load σ) (f_MO_memories τ 33 (f_CO_rt σ) (f_LS_address σ)) := by
  have hal : f_LS_alignmentOf σ 33 = 1 := by
    unfold f_LS_alignmentOf
    decide
  have key : P_MO_memories_159 τ 33 (f_CO_rt σ) (f_LS_address σ) false false 2 ∧ Post (f_LS_load_c1 (f_AS_locateAligned σ (f_LS_address σ) 0 1) 33) (f_MO_memories_159 τ 33 (f_CO_rt σ) (f_LS_address σ) false false 2) := by
    refine mem_ag h (Or.inl ⟨rfl, rfl, rfl⟩) (Or.inr (Or.inl ⟨rfl, rfl, rfl⟩)) (fun z => f_LS_load_c1 z 33) (fun z hz => ?_) (fun p hp hpB => ⟨Pc2 τ _ _ (vin31 (rtok σ)) hp, ?_⟩)
    · unfold f_LS_load_c1
      rw [if_neg hz]
    · show Post (f_LS_load_c1 (xs_asked σ (f_LS_address σ), lN p) 33) _
      have hA := R1_asked h (f_LS_address σ)
      have hrt : f_CO_rt (xs_asked σ (f_LS_address σ)) = f_CO_rt σ := rfl
      have htt : f_CO_t (xs_asked σ (f_LS_address σ)) = f_CO_t σ := rfl
      rw [c2_load h, loadC _ hp (by decide), hrt, wordAt_ag hA.1 hp, a3 hp, lo_33]
      unfold f_MO_load f_MO_load_25 f_MO_load_41 f_MO_load_c1
      rw [if_neg (show ¬ (33 : Int32) = 32 by decide), if_pos (show (33 : Int32) = 33 by decide), if_neg (show ¬ (33 : Int32) = 48 by decide), bytesN τ hp (by decide)]
      have hr : p % 4 = 0 ∨ p % 4 = 2 := by omega
      rcases hr with hr | hr
      · rw [hr]
        exact Post_put hA (rtok _) (v_LH0 _)
      · rw [hr]
        exact Post_put hA (rtok _) (v_LH2 _)
  unfold f_LS_load
  rw [hop, hal, mm_33]
  exact ⟨mP_33 _ _ _ key.1, key.2⟩
theorem mm_34 (τ : MS) (rt a : Int32) : f_MO_memories τ 34 rt a = f_MO_memories_159 τ 34 rt a true false 1 := by
  have hwi : f_MO_within τ 34 40 46 = false := by
    unfold f_MO_within
    decide
  simp only [f_MO_memories, f_MO_memories_23, f_MO_memories_29, f_MO_memories_34, f_MO_memories_60, f_MO_memories_65, f_MO_memories_84, f_MO_memories_89, f_MO_memories_132, f_MO_memories_154, hwi, if_pos (show zb false = 0 by decide), if_neg (show ¬ (34 : Int32) = 56 by decide), if_pos (show (34 : Int32) = 34 by decide), if_pos (show (34 : Int32) < 39 by decide), if_neg (show ¬ (34 : Int32) = 51 by decide), if_neg (show ¬ zb true = 0 by decide), if_neg (show ¬ (34 : Int32) = 32 by decide), if_neg (show ¬ (34 : Int32) = 36 by decide), if_neg (show ¬ (34 : Int32) = 40 by decide), if_true]
theorem mP_34 (τ : MS) (rt a : Int32) (hp : P_MO_memories_159 τ 34 rt a true false 1) : P_MO_memories τ 34 rt a := by
  have hwi : f_MO_within τ 34 40 46 = false := by
    unfold f_MO_within
    decide
  unfold P_MO_memories
  rw [hwi]
  exact ⟨fun _ => ⟨fun q => absurd q (show ¬ (34 : Int32) = 56 by decide), fun _ => ⟨fun _ => ⟨fun _ => ⟨fun q => absurd q (show ¬ (34 : Int32) = 51 by decide), fun _ => ⟨fun q => absurd q (show ¬ zb true = 0 by decide), fun _ => ⟨fun q => absurd q (show ¬ (34 : Int32) = 32 by decide), fun _ => ⟨fun q => absurd q (show ¬ (34 : Int32) = 36 by decide), fun _ => ⟨fun q => absurd q (show ¬ (34 : Int32) = 40 by decide), fun _ => ⟨fun q => absurd q (show ¬ zb true = 0 by decide), fun _ => hp⟩⟩⟩⟩⟩⟩, fun q => absurd (show (34 : Int32) < 39 by decide) q⟩, fun q => absurd (show (34 : Int32) = 34 by decide) q⟩⟩, fun q => absurd (show zb false = 0 by decide) q⟩
theorem mem_34 (h : R1 σ τ) (hop : f_CO_op σ = 34) : P_MO_memories τ 34 (f_CO_rt σ) (f_LS_address σ) ∧ Post (f_LS_load σ) (f_MO_memories τ 34 (f_CO_rt σ) (f_LS_address σ)) := by
  have hal : f_LS_alignmentOf σ 34 = 0 := by
    unfold f_LS_alignmentOf
    decide
  have key : P_MO_memories_159 τ 34 (f_CO_rt σ) (f_LS_address σ) true false 1 ∧ Post (f_LS_load_c1 (f_AS_locateAligned σ (f_LS_address σ) 0 0) 34) (f_MO_memories_159 τ 34 (f_CO_rt σ) (f_LS_address σ) true false 1) := by
    refine mem_ag h (Or.inl ⟨rfl, rfl, rfl⟩) (Or.inl ⟨rfl, rfl, rfl⟩) (fun z => f_LS_load_c1 z 34) (fun z hz => ?_) (fun p hp hpB => ⟨Pc2 τ _ _ (vin31 (rtok σ)) hp, ?_⟩)
    · unfold f_LS_load_c1
      rw [if_neg hz]
    · show Post (f_LS_load_c1 (xs_asked σ (f_LS_address σ), lN p) 34) _
      have hA := R1_asked h (f_LS_address σ)
      have hrt : f_CO_rt (xs_asked σ (f_LS_address σ)) = f_CO_rt σ := rfl
      have htt : f_CO_t (xs_asked σ (f_LS_address σ)) = f_CO_t σ := rfl
      rw [c2_part h, loadC _ hp (by decide), hrt, htt, wordAt_ag hA.1 hp, a3 hp, lo_34]
      have hr : p % 4 = 0 ∨ p % 4 = 1 ∨ p % 4 = 2 ∨ p % 4 = 3 := by omega
      have hq : p - p % 4 < 262144 := by omega
      have hq2 : (p - p % 4) / 4 = p / 4 := by omega
      have hq3 : (p - p % 4) % 4 = 0 := by omega
      have hsub := lsub hp
      rcases hr with hr | hr | hr | hr
      · unfold f_MO_partly
        rw [lN_i, m4 hp, hr]
        rw [hr] at hsub
        simp only [f_MO_partly_18, f_MO_partly_23, f_MO_partly_41, f_MO_partly_57, f_MO_partly_87, f_MO_partly_191, f_MO_partly_c2, if_pos (show (34 : Int32) = 34 by decide), if_neg (show ¬ zb true = 0 by decide), if_pos (show (4 : Int32) - nI 0 = 4 by decide), if_pos (show (34 : Int32) ≤ 39 by decide), if_true]
        rw [t_eq h.1]
        rw [show (4 : Int32) - nI 0 = 4 by decide, bytes4 τ hp]
        exact Post_put hA (rtok _) (v_LWL0 _ _)
      · unfold f_MO_partly
        rw [lN_i, m4 hp, hr]
        rw [hr] at hsub
        simp only [f_MO_partly_18, f_MO_partly_23, f_MO_partly_41, f_MO_partly_57, f_MO_partly_87, f_MO_partly_191, f_MO_partly_c2, if_pos (show (34 : Int32) = 34 by decide), if_neg (show ¬ zb true = 0 by decide), if_neg (show ¬ (4 : Int32) - nI 1 = 4 by decide), if_pos (show (34 : Int32) ≤ 39 by decide), if_true]
        rw [t_eq h.1]
        rw [bytesN τ hp (n := (4 : Int32) - nI 1) (by decide)]
        rw [hr]
        exact Post_put hA (rtok _) (v_LWL1 _ _)
      · unfold f_MO_partly
        rw [lN_i, m4 hp, hr]
        rw [hr] at hsub
        simp only [f_MO_partly_18, f_MO_partly_23, f_MO_partly_41, f_MO_partly_57, f_MO_partly_87, f_MO_partly_191, f_MO_partly_c2, if_pos (show (34 : Int32) = 34 by decide), if_neg (show ¬ zb true = 0 by decide), if_neg (show ¬ (4 : Int32) - nI 2 = 4 by decide), if_pos (show (34 : Int32) ≤ 39 by decide), if_true]
        rw [t_eq h.1]
        rw [bytesN τ hp (n := (4 : Int32) - nI 2) (by decide)]
        rw [hr]
        exact Post_put hA (rtok _) (v_LWL2 _ _)
      · unfold f_MO_partly
        rw [lN_i, m4 hp, hr]
        rw [hr] at hsub
        simp only [f_MO_partly_18, f_MO_partly_23, f_MO_partly_41, f_MO_partly_57, f_MO_partly_87, f_MO_partly_191, f_MO_partly_c2, if_pos (show (34 : Int32) = 34 by decide), if_neg (show ¬ zb true = 0 by decide), if_neg (show ¬ (4 : Int32) - nI 3 = 4 by decide), if_pos (show (34 : Int32) ≤ 39 by decide), if_true]
        rw [t_eq h.1]
        rw [bytesN τ hp (n := (4 : Int32) - nI 3) (by decide)]
        rw [hr]
        exact Post_put hA (rtok _) (v_LWL3 _ _)
  unfold f_LS_load
  rw [hop, hal, mm_34]
  exact ⟨mP_34 _ _ _ key.1, key.2⟩
theorem mm_35 (τ : MS) (rt a : Int32) : f_MO_memories τ 35 rt a = f_MO_memories_159 τ 35 rt a false false 4 := by
  have hwi : f_MO_within τ 35 40 46 = false := by
    unfold f_MO_within
    decide
  simp only [f_MO_memories, f_MO_memories_23, f_MO_memories_29, f_MO_memories_34, f_MO_memories_60, f_MO_memories_65, f_MO_memories_84, f_MO_memories_89, f_MO_memories_132, f_MO_memories_154, hwi, if_pos (show zb false = 0 by decide), if_neg (show ¬ (35 : Int32) = 56 by decide), if_neg (show ¬ (35 : Int32) = 34 by decide), if_neg (show ¬ (35 : Int32) = 38 by decide), if_neg (show ¬ (35 : Int32) = 42 by decide), if_neg (show ¬ (35 : Int32) = 46 by decide), if_pos (show (35 : Int32) < 39 by decide), if_neg (show ¬ (35 : Int32) = 51 by decide), if_neg (show ¬ zb true = 0 by decide), if_neg (show ¬ (35 : Int32) = 32 by decide), if_neg (show ¬ (35 : Int32) = 36 by decide), if_neg (show ¬ (35 : Int32) = 40 by decide), if_neg (show ¬ (35 : Int32) = 33 by decide), if_neg (show ¬ (35 : Int32) = 37 by decide), if_neg (show ¬ (35 : Int32) = 41 by decide), if_true]
theorem mP_35 (τ : MS) (rt a : Int32) (hp : P_MO_memories_159 τ 35 rt a false false 4) : P_MO_memories τ 35 rt a := by
  have hwi : f_MO_within τ 35 40 46 = false := by
    unfold f_MO_within
    decide
  unfold P_MO_memories
  rw [hwi]
  exact ⟨fun _ => ⟨fun q => absurd q (show ¬ (35 : Int32) = 56 by decide), fun _ => ⟨fun q => absurd q (show ¬ (35 : Int32) = 34 by decide), fun _ => ⟨fun q => absurd q (show ¬ (35 : Int32) = 38 by decide), fun _ => ⟨fun q => absurd q (show ¬ (35 : Int32) = 42 by decide), fun _ => ⟨fun q => absurd q (show ¬ (35 : Int32) = 46 by decide), fun _ => ⟨fun _ => ⟨fun q => absurd q (show ¬ (35 : Int32) = 51 by decide), fun _ => ⟨fun q => absurd q (show ¬ zb true = 0 by decide), fun _ => ⟨fun q => absurd q (show ¬ (35 : Int32) = 32 by decide), fun _ => ⟨fun q => absurd q (show ¬ (35 : Int32) = 36 by decide), fun _ => ⟨fun q => absurd q (show ¬ (35 : Int32) = 40 by decide), fun _ => ⟨fun _ => ⟨fun q => absurd q (show ¬ (35 : Int32) = 33 by decide), fun _ => ⟨fun q => absurd q (show ¬ (35 : Int32) = 37 by decide), fun _ => ⟨fun q => absurd q (show ¬ (35 : Int32) = 41 by decide), fun _ => hp⟩⟩⟩, fun q => absurd (show zb false = 0 by decide) q⟩⟩⟩⟩⟩⟩, fun q => absurd (show (35 : Int32) < 39 by decide) q⟩⟩⟩⟩⟩⟩, fun q => absurd (show zb false = 0 by decide) q⟩
theorem mem_35 (h : R1 σ τ) (hop : f_CO_op σ = 35) : P_MO_memories τ 35 (f_CO_rt σ) (f_LS_address σ) ∧ Post (f_LS_load σ) (f_MO_memories τ 35 (f_CO_rt σ) (f_LS_address σ)) := by
  have hal : f_LS_alignmentOf σ 35 = 3 := by
    unfold f_LS_alignmentOf
    decide
  have key : P_MO_memories_159 τ 35 (f_CO_rt σ) (f_LS_address σ) false false 4 ∧ Post (f_LS_load_c1 (f_AS_locateAligned σ (f_LS_address σ) 0 3) 35) (f_MO_memories_159 τ 35 (f_CO_rt σ) (f_LS_address σ) false false 4) := by
    refine mem_ag h (Or.inl ⟨rfl, rfl, rfl⟩) (Or.inr (Or.inr ⟨rfl, rfl, rfl⟩)) (fun z => f_LS_load_c1 z 35) (fun z hz => ?_) (fun p hp hpB => ⟨Pc2 τ _ _ (vin31 (rtok σ)) hp, ?_⟩)
    · unfold f_LS_load_c1
      rw [if_neg hz]
    · show Post (f_LS_load_c1 (xs_asked σ (f_LS_address σ), lN p) 35) _
      have hA := R1_asked h (f_LS_address σ)
      have hrt : f_CO_rt (xs_asked σ (f_LS_address σ)) = f_CO_rt σ := rfl
      have htt : f_CO_t (xs_asked σ (f_LS_address σ)) = f_CO_t σ := rfl
      rw [c2_load h, loadC _ hp (by decide), hrt, wordAt_ag hA.1 hp, a3 hp, lo_35]
      unfold f_MO_load f_MO_load_25 f_MO_load_41 f_MO_load_c1
      rw [if_neg (show ¬ (35 : Int32) = 32 by decide), if_neg (show ¬ (35 : Int32) = 33 by decide), if_neg (show ¬ (35 : Int32) = 48 by decide), bytes4 τ hp]
      exact Post_put hA (rtok _) rfl
  unfold f_LS_load
  rw [hop, hal, mm_35]
  exact ⟨mP_35 _ _ _ key.1, key.2⟩
theorem mm_36 (τ : MS) (rt a : Int32) : f_MO_memories τ 36 rt a = f_MO_memories_159 τ 36 rt a false false 1 := by
  have hwi : f_MO_within τ 36 40 46 = false := by
    unfold f_MO_within
    decide
  simp only [f_MO_memories, f_MO_memories_23, f_MO_memories_29, f_MO_memories_34, f_MO_memories_60, f_MO_memories_65, f_MO_memories_84, f_MO_memories_89, f_MO_memories_132, f_MO_memories_154, hwi, if_pos (show zb false = 0 by decide), if_neg (show ¬ (36 : Int32) = 56 by decide), if_neg (show ¬ (36 : Int32) = 34 by decide), if_neg (show ¬ (36 : Int32) = 38 by decide), if_neg (show ¬ (36 : Int32) = 42 by decide), if_neg (show ¬ (36 : Int32) = 46 by decide), if_pos (show (36 : Int32) < 39 by decide), if_neg (show ¬ (36 : Int32) = 51 by decide), if_neg (show ¬ zb true = 0 by decide), if_neg (show ¬ (36 : Int32) = 32 by decide), if_pos (show (36 : Int32) = 36 by decide), if_true]
theorem mP_36 (τ : MS) (rt a : Int32) (hp : P_MO_memories_159 τ 36 rt a false false 1) : P_MO_memories τ 36 rt a := by
  have hwi : f_MO_within τ 36 40 46 = false := by
    unfold f_MO_within
    decide
  unfold P_MO_memories
  rw [hwi]
  exact ⟨fun _ => ⟨fun q => absurd q (show ¬ (36 : Int32) = 56 by decide), fun _ => ⟨fun q => absurd q (show ¬ (36 : Int32) = 34 by decide), fun _ => ⟨fun q => absurd q (show ¬ (36 : Int32) = 38 by decide), fun _ => ⟨fun q => absurd q (show ¬ (36 : Int32) = 42 by decide), fun _ => ⟨fun q => absurd q (show ¬ (36 : Int32) = 46 by decide), fun _ => ⟨fun _ => ⟨fun q => absurd q (show ¬ (36 : Int32) = 51 by decide), fun _ => ⟨fun q => absurd q (show ¬ zb true = 0 by decide), fun _ => ⟨fun q => absurd q (show ¬ (36 : Int32) = 32 by decide), fun _ => ⟨fun _ => hp, fun q => absurd (show (36 : Int32) = 36 by decide) q⟩⟩⟩⟩, fun q => absurd (show (36 : Int32) < 39 by decide) q⟩⟩⟩⟩⟩⟩, fun q => absurd (show zb false = 0 by decide) q⟩
theorem mem_36 (h : R1 σ τ) (hop : f_CO_op σ = 36) : P_MO_memories τ 36 (f_CO_rt σ) (f_LS_address σ) ∧ Post (f_LS_load σ) (f_MO_memories τ 36 (f_CO_rt σ) (f_LS_address σ)) := by
  have hal : f_LS_alignmentOf σ 36 = 0 := by
    unfold f_LS_alignmentOf
    decide
  have key : P_MO_memories_159 τ 36 (f_CO_rt σ) (f_LS_address σ) false false 1 ∧ Post (f_LS_load_c1 (f_AS_locateAligned σ (f_LS_address σ) 0 0) 36) (f_MO_memories_159 τ 36 (f_CO_rt σ) (f_LS_address σ) false false 1) := by
    refine mem_ag h (Or.inl ⟨rfl, rfl, rfl⟩) (Or.inl ⟨rfl, rfl, rfl⟩) (fun z => f_LS_load_c1 z 36) (fun z hz => ?_) (fun p hp hpB => ⟨Pc2 τ _ _ (vin31 (rtok σ)) hp, ?_⟩)
    · unfold f_LS_load_c1
      rw [if_neg hz]
    · show Post (f_LS_load_c1 (xs_asked σ (f_LS_address σ), lN p) 36) _
      have hA := R1_asked h (f_LS_address σ)
      have hrt : f_CO_rt (xs_asked σ (f_LS_address σ)) = f_CO_rt σ := rfl
      have htt : f_CO_t (xs_asked σ (f_LS_address σ)) = f_CO_t σ := rfl
      rw [c2_load h, loadC _ hp (by decide), hrt, wordAt_ag hA.1 hp, a3 hp, lo_36]
      unfold f_MO_load f_MO_load_25 f_MO_load_41 f_MO_load_c1
      rw [if_neg (show ¬ (36 : Int32) = 32 by decide), if_neg (show ¬ (36 : Int32) = 33 by decide), if_neg (show ¬ (36 : Int32) = 48 by decide), bytesN τ hp (by decide)]
      have hr : p % 4 = 0 ∨ p % 4 = 1 ∨ p % 4 = 2 ∨ p % 4 = 3 := by omega
      rcases hr with hr | hr | hr | hr
      · rw [hr]
        exact Post_put hA (rtok _) (v_LBU0 _)
      · rw [hr]
        exact Post_put hA (rtok _) (v_LBU1 _)
      · rw [hr]
        exact Post_put hA (rtok _) (v_LBU2 _)
      · rw [hr]
        exact Post_put hA (rtok _) (v_LBU3 _)
  unfold f_LS_load
  rw [hop, hal, mm_36]
  exact ⟨mP_36 _ _ _ key.1, key.2⟩
theorem mm_37 (τ : MS) (rt a : Int32) : f_MO_memories τ 37 rt a = f_MO_memories_159 τ 37 rt a false false 2 := by
  have hwi : f_MO_within τ 37 40 46 = false := by
    unfold f_MO_within
    decide
  simp only [f_MO_memories, f_MO_memories_23, f_MO_memories_29, f_MO_memories_34, f_MO_memories_60, f_MO_memories_65, f_MO_memories_84, f_MO_memories_89, f_MO_memories_132, f_MO_memories_154, hwi, if_pos (show zb false = 0 by decide), if_neg (show ¬ (37 : Int32) = 56 by decide), if_neg (show ¬ (37 : Int32) = 34 by decide), if_neg (show ¬ (37 : Int32) = 38 by decide), if_neg (show ¬ (37 : Int32) = 42 by decide), if_neg (show ¬ (37 : Int32) = 46 by decide), if_pos (show (37 : Int32) < 39 by decide), if_neg (show ¬ (37 : Int32) = 51 by decide), if_neg (show ¬ zb true = 0 by decide), if_neg (show ¬ (37 : Int32) = 32 by decide), if_neg (show ¬ (37 : Int32) = 36 by decide), if_neg (show ¬ (37 : Int32) = 40 by decide), if_neg (show ¬ (37 : Int32) = 33 by decide), if_pos (show (37 : Int32) = 37 by decide), if_true]
theorem mP_37 (τ : MS) (rt a : Int32) (hp : P_MO_memories_159 τ 37 rt a false false 2) : P_MO_memories τ 37 rt a := by
  have hwi : f_MO_within τ 37 40 46 = false := by
    unfold f_MO_within
    decide
  unfold P_MO_memories
  rw [hwi]
  exact ⟨fun _ => ⟨fun q => absurd q (show ¬ (37 : Int32) = 56 by decide), fun _ => ⟨fun q => absurd q (show ¬ (37 : Int32) = 34 by decide), fun _ => ⟨fun q => absurd q (show ¬ (37 : Int32) = 38 by decide), fun _ => ⟨fun q => absurd q (show ¬ (37 : Int32) = 42 by decide), fun _ => ⟨fun q => absurd q (show ¬ (37 : Int32) = 46 by decide), fun _ => ⟨fun _ => ⟨fun q => absurd q (show ¬ (37 : Int32) = 51 by decide), fun _ => ⟨fun q => absurd q (show ¬ zb true = 0 by decide), fun _ => ⟨fun q => absurd q (show ¬ (37 : Int32) = 32 by decide), fun _ => ⟨fun q => absurd q (show ¬ (37 : Int32) = 36 by decide), fun _ => ⟨fun q => absurd q (show ¬ (37 : Int32) = 40 by decide), fun _ => ⟨fun _ => ⟨fun q => absurd q (show ¬ (37 : Int32) = 33 by decide), fun _ => ⟨fun _ => hp, fun q => absurd (show (37 : Int32) = 37 by decide) q⟩⟩, fun q => absurd (show zb false = 0 by decide) q⟩⟩⟩⟩⟩⟩, fun q => absurd (show (37 : Int32) < 39 by decide) q⟩⟩⟩⟩⟩⟩, fun q => absurd (show zb false = 0 by decide) q⟩
theorem mem_37 (h : R1 σ τ) (hop : f_CO_op σ = 37) : P_MO_memories τ 37 (f_CO_rt σ) (f_LS_address σ) ∧ Post (f_LS_load σ) (f_MO_memories τ 37 (f_CO_rt σ) (f_LS_address σ)) := by
  have hal : f_LS_alignmentOf σ 37 = 1 := by
    unfold f_LS_alignmentOf
    decide
  have key : P_MO_memories_159 τ 37 (f_CO_rt σ) (f_LS_address σ) false false 2 ∧ Post (f_LS_load_c1 (f_AS_locateAligned σ (f_LS_address σ) 0 1) 37) (f_MO_memories_159 τ 37 (f_CO_rt σ) (f_LS_address σ) false false 2) := by
    refine mem_ag h (Or.inl ⟨rfl, rfl, rfl⟩) (Or.inr (Or.inl ⟨rfl, rfl, rfl⟩)) (fun z => f_LS_load_c1 z 37) (fun z hz => ?_) (fun p hp hpB => ⟨Pc2 τ _ _ (vin31 (rtok σ)) hp, ?_⟩)
    · unfold f_LS_load_c1
      rw [if_neg hz]
    · show Post (f_LS_load_c1 (xs_asked σ (f_LS_address σ), lN p) 37) _
      have hA := R1_asked h (f_LS_address σ)
      have hrt : f_CO_rt (xs_asked σ (f_LS_address σ)) = f_CO_rt σ := rfl
      have htt : f_CO_t (xs_asked σ (f_LS_address σ)) = f_CO_t σ := rfl
      rw [c2_load h, loadC _ hp (by decide), hrt, wordAt_ag hA.1 hp, a3 hp, lo_37]
      unfold f_MO_load f_MO_load_25 f_MO_load_41 f_MO_load_c1
      rw [if_neg (show ¬ (37 : Int32) = 32 by decide), if_neg (show ¬ (37 : Int32) = 33 by decide), if_neg (show ¬ (37 : Int32) = 48 by decide), bytesN τ hp (by decide)]
      have hr : p % 4 = 0 ∨ p % 4 = 2 := by omega
      rcases hr with hr | hr
      · rw [hr]
        exact Post_put hA (rtok _) (v_LHU0 _)
      · rw [hr]
        exact Post_put hA (rtok _) (v_LHU2 _)
  unfold f_LS_load
  rw [hop, hal, mm_37]
  exact ⟨mP_37 _ _ _ key.1, key.2⟩
theorem mm_38 (τ : MS) (rt a : Int32) : f_MO_memories τ 38 rt a = f_MO_memories_159 τ 38 rt a true false 1 := by
  have hwi : f_MO_within τ 38 40 46 = false := by
    unfold f_MO_within
    decide
  simp only [f_MO_memories, f_MO_memories_23, f_MO_memories_29, f_MO_memories_34, f_MO_memories_60, f_MO_memories_65, f_MO_memories_84, f_MO_memories_89, f_MO_memories_132, f_MO_memories_154, hwi, if_pos (show zb false = 0 by decide), if_neg (show ¬ (38 : Int32) = 56 by decide), if_neg (show ¬ (38 : Int32) = 34 by decide), if_pos (show (38 : Int32) = 38 by decide), if_pos (show (38 : Int32) < 39 by decide), if_neg (show ¬ (38 : Int32) = 51 by decide), if_neg (show ¬ zb true = 0 by decide), if_neg (show ¬ (38 : Int32) = 32 by decide), if_neg (show ¬ (38 : Int32) = 36 by decide), if_neg (show ¬ (38 : Int32) = 40 by decide), if_true]
theorem mP_38 (τ : MS) (rt a : Int32) (hp : P_MO_memories_159 τ 38 rt a true false 1) : P_MO_memories τ 38 rt a := by
  have hwi : f_MO_within τ 38 40 46 = false := by
    unfold f_MO_within
    decide
  unfold P_MO_memories
  rw [hwi]
  exact ⟨fun _ => ⟨fun q => absurd q (show ¬ (38 : Int32) = 56 by decide), fun _ => ⟨fun q => absurd q (show ¬ (38 : Int32) = 34 by decide), fun _ => ⟨fun _ => ⟨fun _ => ⟨fun q => absurd q (show ¬ (38 : Int32) = 51 by decide), fun _ => ⟨fun q => absurd q (show ¬ zb true = 0 by decide), fun _ => ⟨fun q => absurd q (show ¬ (38 : Int32) = 32 by decide), fun _ => ⟨fun q => absurd q (show ¬ (38 : Int32) = 36 by decide), fun _ => ⟨fun q => absurd q (show ¬ (38 : Int32) = 40 by decide), fun _ => ⟨fun q => absurd q (show ¬ zb true = 0 by decide), fun _ => hp⟩⟩⟩⟩⟩⟩, fun q => absurd (show (38 : Int32) < 39 by decide) q⟩, fun q => absurd (show (38 : Int32) = 38 by decide) q⟩⟩⟩, fun q => absurd (show zb false = 0 by decide) q⟩
theorem mem_38 (h : R1 σ τ) (hop : f_CO_op σ = 38) : P_MO_memories τ 38 (f_CO_rt σ) (f_LS_address σ) ∧ Post (f_LS_load σ) (f_MO_memories τ 38 (f_CO_rt σ) (f_LS_address σ)) := by
  have hal : f_LS_alignmentOf σ 38 = 0 := by
    unfold f_LS_alignmentOf
    decide
  have key : P_MO_memories_159 τ 38 (f_CO_rt σ) (f_LS_address σ) true false 1 ∧ Post (f_LS_load_c1 (f_AS_locateAligned σ (f_LS_address σ) 0 0) 38) (f_MO_memories_159 τ 38 (f_CO_rt σ) (f_LS_address σ) true false 1) := by
    refine mem_ag h (Or.inl ⟨rfl, rfl, rfl⟩) (Or.inl ⟨rfl, rfl, rfl⟩) (fun z => f_LS_load_c1 z 38) (fun z hz => ?_) (fun p hp hpB => ⟨Pc2 τ _ _ (vin31 (rtok σ)) hp, ?_⟩)
    · unfold f_LS_load_c1
      rw [if_neg hz]
    · show Post (f_LS_load_c1 (xs_asked σ (f_LS_address σ), lN p) 38) _
      have hA := R1_asked h (f_LS_address σ)
      have hrt : f_CO_rt (xs_asked σ (f_LS_address σ)) = f_CO_rt σ := rfl
      have htt : f_CO_t (xs_asked σ (f_LS_address σ)) = f_CO_t σ := rfl
      rw [c2_part h, loadC _ hp (by decide), hrt, htt, wordAt_ag hA.1 hp, a3 hp, lo_38]
      have hr : p % 4 = 0 ∨ p % 4 = 1 ∨ p % 4 = 2 ∨ p % 4 = 3 := by omega
      have hq : p - p % 4 < 262144 := by omega
      have hq2 : (p - p % 4) / 4 = p / 4 := by omega
      have hq3 : (p - p % 4) % 4 = 0 := by omega
      have hsub := lsub hp
      rcases hr with hr | hr | hr | hr
      · unfold f_MO_partly
        rw [lN_i, m4 hp, hr]
        rw [hr] at hsub
        simp only [f_MO_partly_18, f_MO_partly_23, f_MO_partly_41, f_MO_partly_57, f_MO_partly_87, f_MO_partly_191, f_MO_partly_c2, if_neg (show ¬ (38 : Int32) = 34 by decide), if_neg (show ¬ (38 : Int32) = 42 by decide), if_pos (show zb false = 0 by decide), if_neg (show ¬ nI 0 + (1 : Int32) = 4 by decide), if_pos (show (38 : Int32) ≤ 39 by decide), hsub, if_true]
        rw [t_eq h.1]
        rw [bytesN τ (show p - 0 < 262144 by omega) (n := nI 0 + (1 : Int32)) (by decide)]
        rw [show (p - 0) / 4 = p / 4 by omega, show (p - 0) % 4 = 0 by omega]
        exact Post_put hA (rtok _) (v_LWR0 _ _)
      · unfold f_MO_partly
        rw [lN_i, m4 hp, hr]
        rw [hr] at hsub
        simp only [f_MO_partly_18, f_MO_partly_23, f_MO_partly_41, f_MO_partly_57, f_MO_partly_87, f_MO_partly_191, f_MO_partly_c2, if_neg (show ¬ (38 : Int32) = 34 by decide), if_neg (show ¬ (38 : Int32) = 42 by decide), if_pos (show zb false = 0 by decide), if_neg (show ¬ nI 1 + (1 : Int32) = 4 by decide), if_pos (show (38 : Int32) ≤ 39 by decide), hsub, if_true]
        rw [t_eq h.1]
        rw [bytesN τ (show p - 1 < 262144 by omega) (n := nI 1 + (1 : Int32)) (by decide)]
        rw [show (p - 1) / 4 = p / 4 by omega, show (p - 1) % 4 = 0 by omega]
        exact Post_put hA (rtok _) (v_LWR1 _ _)
      · unfold f_MO_partly
        rw [lN_i, m4 hp, hr]
        rw [hr] at hsub
        simp only [f_MO_partly_18, f_MO_partly_23, f_MO_partly_41, f_MO_partly_57, f_MO_partly_87, f_MO_partly_191, f_MO_partly_c2, if_neg (show ¬ (38 : Int32) = 34 by decide), if_neg (show ¬ (38 : Int32) = 42 by decide), if_pos (show zb false = 0 by decide), if_neg (show ¬ nI 2 + (1 : Int32) = 4 by decide), if_pos (show (38 : Int32) ≤ 39 by decide), hsub, if_true]
        rw [t_eq h.1]
        rw [bytesN τ (show p - 2 < 262144 by omega) (n := nI 2 + (1 : Int32)) (by decide)]
        rw [show (p - 2) / 4 = p / 4 by omega, show (p - 2) % 4 = 0 by omega]
        exact Post_put hA (rtok _) (v_LWR2 _ _)
      · unfold f_MO_partly
        rw [lN_i, m4 hp, hr]
        rw [hr] at hsub
        simp only [f_MO_partly_18, f_MO_partly_23, f_MO_partly_41, f_MO_partly_57, f_MO_partly_87, f_MO_partly_191, f_MO_partly_c2, if_neg (show ¬ (38 : Int32) = 34 by decide), if_neg (show ¬ (38 : Int32) = 42 by decide), if_pos (show zb false = 0 by decide), if_pos (show nI 3 + (1 : Int32) = 4 by decide), if_pos (show (38 : Int32) ≤ 39 by decide), hsub, if_true]
        rw [t_eq h.1]
        rw [show nI 3 + (1 : Int32) = 4 by decide, bytes4 τ (show p - 3 < 262144 by omega)]
        rw [show (p - 3) / 4 = p / 4 by omega]
        exact Post_put hA (rtok _) (v_LWR3 _ _)
  unfold f_LS_load
  rw [hop, hal, mm_38]
  exact ⟨mP_38 _ _ _ key.1, key.2⟩
theorem mm_48 (τ : MS) (rt a : Int32) : f_MO_memories τ 48 rt a = f_MO_memories_159 τ 48 rt a false false 4 := by
  have hwi : f_MO_within τ 48 40 46 = false := by
    unfold f_MO_within
    decide
  simp only [f_MO_memories, f_MO_memories_23, f_MO_memories_29, f_MO_memories_34, f_MO_memories_60, f_MO_memories_65, f_MO_memories_84, f_MO_memories_89, f_MO_memories_132, f_MO_memories_154, hwi, if_pos (show zb false = 0 by decide), if_neg (show ¬ (48 : Int32) = 56 by decide), if_neg (show ¬ (48 : Int32) = 34 by decide), if_neg (show ¬ (48 : Int32) = 38 by decide), if_neg (show ¬ (48 : Int32) = 42 by decide), if_neg (show ¬ (48 : Int32) = 46 by decide), if_neg (show ¬ (48 : Int32) < 39 by decide), if_pos (show (48 : Int32) = 48 by decide), if_neg (show ¬ (48 : Int32) = 51 by decide), if_neg (show ¬ zb true = 0 by decide), if_neg (show ¬ (48 : Int32) = 32 by decide), if_neg (show ¬ (48 : Int32) = 36 by decide), if_neg (show ¬ (48 : Int32) = 40 by decide), if_neg (show ¬ (48 : Int32) = 33 by decide), if_neg (show ¬ (48 : Int32) = 37 by decide), if_neg (show ¬ (48 : Int32) = 41 by decide), if_true]
theorem mP_48 (τ : MS) (rt a : Int32) (hp : P_MO_memories_159 τ 48 rt a false false 4) : P_MO_memories τ 48 rt a := by
  have hwi : f_MO_within τ 48 40 46 = false := by
    unfold f_MO_within
    decide
  unfold P_MO_memories
  rw [hwi]
  exact ⟨fun _ => ⟨fun q => absurd q (show ¬ (48 : Int32) = 56 by decide), fun _ => ⟨fun q => absurd q (show ¬ (48 : Int32) = 34 by decide), fun _ => ⟨fun q => absurd q (show ¬ (48 : Int32) = 38 by decide), fun _ => ⟨fun q => absurd q (show ¬ (48 : Int32) = 42 by decide), fun _ => ⟨fun q => absurd q (show ¬ (48 : Int32) = 46 by decide), fun _ => ⟨fun q => absurd q (show ¬ (48 : Int32) < 39 by decide), fun _ => ⟨fun _ => ⟨fun _ => ⟨fun q => absurd q (show ¬ (48 : Int32) = 51 by decide), fun _ => ⟨fun q => absurd q (show ¬ zb true = 0 by decide), fun _ => ⟨fun q => absurd q (show ¬ (48 : Int32) = 32 by decide), fun _ => ⟨fun q => absurd q (show ¬ (48 : Int32) = 36 by decide), fun _ => ⟨fun q => absurd q (show ¬ (48 : Int32) = 40 by decide), fun _ => ⟨fun _ => ⟨fun q => absurd q (show ¬ (48 : Int32) = 33 by decide), fun _ => ⟨fun q => absurd q (show ¬ (48 : Int32) = 37 by decide), fun _ => ⟨fun q => absurd q (show ¬ (48 : Int32) = 41 by decide), fun _ => hp⟩⟩⟩, fun q => absurd (show zb false = 0 by decide) q⟩⟩⟩⟩⟩⟩, fun q => absurd (show (48 : Int32) = 48 by decide) q⟩, fun q => absurd (show zb false = 0 by decide) q⟩⟩⟩⟩⟩⟩⟩, fun q => absurd (show zb false = 0 by decide) q⟩
theorem mem_48 (h : R1 σ τ) (hop : f_CO_op σ = 48) : P_MO_memories τ 48 (f_CO_rt σ) (f_LS_address σ) ∧ Post (f_LS_load σ) (f_MO_memories τ 48 (f_CO_rt σ) (f_LS_address σ)) := by
  have hal : f_LS_alignmentOf σ 48 = 3 := by
    unfold f_LS_alignmentOf
    decide
  have key : P_MO_memories_159 τ 48 (f_CO_rt σ) (f_LS_address σ) false false 4 ∧ Post (f_LS_load_c1 (f_AS_locateAligned σ (f_LS_address σ) 0 3) 48) (f_MO_memories_159 τ 48 (f_CO_rt σ) (f_LS_address σ) false false 4) := by
    refine mem_ag h (Or.inl ⟨rfl, rfl, rfl⟩) (Or.inr (Or.inr ⟨rfl, rfl, rfl⟩)) (fun z => f_LS_load_c1 z 48) (fun z hz => ?_) (fun p hp hpB => ⟨Pc2 τ _ _ (vin31 (rtok σ)) hp, ?_⟩)
    · unfold f_LS_load_c1
      rw [if_neg hz]
    · show Post (f_LS_load_c1 (xs_asked σ (f_LS_address σ), lN p) 48) _
      have hA := R1_asked h (f_LS_address σ)
      have hrt : f_CO_rt (xs_asked σ (f_LS_address σ)) = f_CO_rt σ := rfl
      have htt : f_CO_t (xs_asked σ (f_LS_address σ)) = f_CO_t σ := rfl
      rw [c2_load h]
      unfold f_LS_load_c1 f_LS_load_c2 f_LS_load_54 f_LS_load_c3 f_MO_load f_MO_load_25 f_MO_load_41 f_MO_load_c1 f_MO_load_c2
      rw [if_pos (lge0 hp), if_pos (show (48 : Int32) = 48 by decide), lN_i, if_neg (show ¬ (48 : Int32) = 32 by decide), if_neg (show ¬ (48 : Int32) = 33 by decide), if_pos (show (48 : Int32) = 48 by decide), bytes4 τ hp, put_link, lo_48]
      exact Post_put (R1_link hA 1) (rtok _) (wordAt_ag (U_link hA.1 1) hp)
  unfold f_LS_load
  rw [hop, hal, mm_48]
  exact ⟨mP_48 _ _ _ key.1, key.2⟩
theorem mm_40 (τ : MS) (rt a : Int32) : f_MO_memories τ 40 rt a = f_MO_memories_159 τ 40 rt a false true 1 := by
  have hwi : f_MO_within τ 40 40 46 = true := by
    unfold f_MO_within
    decide
  simp only [f_MO_memories, f_MO_memories_23, f_MO_memories_29, f_MO_memories_34, f_MO_memories_60, f_MO_memories_65, f_MO_memories_84, f_MO_memories_89, f_MO_memories_132, f_MO_memories_154, hwi, if_neg (show ¬ zb true = 0 by decide), if_neg (show ¬ (40 : Int32) = 44 by decide), if_neg (show ¬ (40 : Int32) = 45 by decide), if_neg (show ¬ (40 : Int32) = 34 by decide), if_neg (show ¬ (40 : Int32) = 38 by decide), if_neg (show ¬ (40 : Int32) = 42 by decide), if_neg (show ¬ (40 : Int32) = 46 by decide), if_neg (show ¬ (40 : Int32) < 39 by decide), if_neg (show ¬ (40 : Int32) = 51 by decide), if_neg (show ¬ (40 : Int32) = 32 by decide), if_neg (show ¬ (40 : Int32) = 36 by decide), if_pos (show (40 : Int32) = 40 by decide), if_true]
theorem mP_40 (τ : MS) (rt a : Int32) (hp : P_MO_memories_159 τ 40 rt a false true 1) : P_MO_memories τ 40 rt a := by
  have hwi : f_MO_within τ 40 40 46 = true := by
    unfold f_MO_within
    decide
  unfold P_MO_memories
  rw [hwi]
  exact ⟨fun q => absurd q (show ¬ zb true = 0 by decide), fun _ => ⟨fun q => absurd q (show ¬ (40 : Int32) = 44 by decide), fun _ => ⟨fun q => absurd q (show ¬ (40 : Int32) = 45 by decide), fun _ => ⟨fun q => absurd q (show ¬ (40 : Int32) = 34 by decide), fun _ => ⟨fun q => absurd q (show ¬ (40 : Int32) = 38 by decide), fun _ => ⟨fun q => absurd q (show ¬ (40 : Int32) = 42 by decide), fun _ => ⟨fun q => absurd q (show ¬ (40 : Int32) = 46 by decide), fun _ => ⟨fun q => absurd q (show ¬ (40 : Int32) < 39 by decide), fun _ => ⟨fun q => absurd q (show ¬ zb true = 0 by decide), fun _ => ⟨fun q => absurd q (show ¬ (40 : Int32) = 51 by decide), fun _ => ⟨fun q => absurd q (show ¬ zb true = 0 by decide), fun _ => ⟨fun q => absurd q (show ¬ (40 : Int32) = 32 by decide), fun _ => ⟨fun q => absurd q (show ¬ (40 : Int32) = 36 by decide), fun _ => ⟨fun _ => hp, fun q => absurd (show (40 : Int32) = 40 by decide) q⟩⟩⟩⟩⟩⟩⟩⟩⟩⟩⟩⟩⟩⟩
theorem mem_40 (h : R1 σ τ) (hop : f_CO_op σ = 40) : P_MO_memories τ 40 (f_CO_rt σ) (f_LS_address σ) ∧ Post (f_LS_store σ) (f_MO_memories τ 40 (f_CO_rt σ) (f_LS_address σ)) := by
  have hal : f_LS_alignmentOf σ 40 = 0 := by
    unfold f_LS_alignmentOf
    decide
  have key : P_MO_memories_159 τ 40 (f_CO_rt σ) (f_LS_address σ) false true 1 ∧ Post (f_LS_store_c1 (f_AS_locateAligned σ (f_LS_address σ) 1 0) 40) (f_MO_memories_159 τ 40 (f_CO_rt σ) (f_LS_address σ) false true 1) := by
    refine mem_ag h (Or.inr (Or.inl ⟨rfl, rfl, rfl⟩)) (Or.inl ⟨rfl, rfl, rfl⟩) (fun z => f_LS_store_c1 z 40) (fun z hz => ?_) (fun p hp hpB => ⟨Pc2 τ _ _ (vin31 (rtok σ)) hp, ?_⟩)
    · unfold f_LS_store_c1
      rw [if_neg hz]
    · show Post (f_LS_store_c1 (xs_asked σ (f_LS_address σ), lN p) 40) _
      have hA := R1_asked h (f_LS_address σ)
      have hrt : f_CO_rt (xs_asked σ (f_LS_address σ)) = f_CO_rt σ := rfl
      have htt : f_CO_t (xs_asked σ (f_LS_address σ)) = f_CO_t σ := rfl
      rw [c2_keep h, storeC _ hp (by decide), keepC τ (by decide), htt, wordAt_ag hA.1 hp, a3 hp, so_40, t_eq h.1]
      rw [storeN τ hp (by decide)]
      have hr : p % 4 = 0 ∨ p % 4 = 1 ∨ p % 4 = 2 ∨ p % 4 = 3 := by omega
      rcases hr with hr | hr | hr | hr
      · rw [hr]
        exact Post_ok (putWord_ag hA hp (v_SB0 _ _))
      · rw [hr]
        exact Post_ok (putWord_ag hA hp (v_SB1 _ _))
      · rw [hr]
        exact Post_ok (putWord_ag hA hp (v_SB2 _ _))
      · rw [hr]
        exact Post_ok (putWord_ag hA hp (v_SB3 _ _))
  unfold f_LS_store
  rw [hop, hal, mm_40]
  exact ⟨mP_40 _ _ _ key.1, key.2⟩
theorem mm_41 (τ : MS) (rt a : Int32) : f_MO_memories τ 41 rt a = f_MO_memories_159 τ 41 rt a false true 2 := by
  have hwi : f_MO_within τ 41 40 46 = true := by
    unfold f_MO_within
    decide
  simp only [f_MO_memories, f_MO_memories_23, f_MO_memories_29, f_MO_memories_34, f_MO_memories_60, f_MO_memories_65, f_MO_memories_84, f_MO_memories_89, f_MO_memories_132, f_MO_memories_154, hwi, if_neg (show ¬ zb true = 0 by decide), if_neg (show ¬ (41 : Int32) = 44 by decide), if_neg (show ¬ (41 : Int32) = 45 by decide), if_neg (show ¬ (41 : Int32) = 34 by decide), if_neg (show ¬ (41 : Int32) = 38 by decide), if_neg (show ¬ (41 : Int32) = 42 by decide), if_neg (show ¬ (41 : Int32) = 46 by decide), if_neg (show ¬ (41 : Int32) < 39 by decide), if_neg (show ¬ (41 : Int32) = 51 by decide), if_neg (show ¬ (41 : Int32) = 32 by decide), if_neg (show ¬ (41 : Int32) = 36 by decide), if_neg (show ¬ (41 : Int32) = 40 by decide), if_pos (show zb false = 0 by decide), if_neg (show ¬ (41 : Int32) = 33 by decide), if_neg (show ¬ (41 : Int32) = 37 by decide), if_pos (show (41 : Int32) = 41 by decide), if_true]
theorem mP_41 (τ : MS) (rt a : Int32) (hp : P_MO_memories_159 τ 41 rt a false true 2) : P_MO_memories τ 41 rt a := by
  have hwi : f_MO_within τ 41 40 46 = true := by
    unfold f_MO_within
    decide
  unfold P_MO_memories
  rw [hwi]
  exact ⟨fun q => absurd q (show ¬ zb true = 0 by decide), fun _ => ⟨fun q => absurd q (show ¬ (41 : Int32) = 44 by decide), fun _ => ⟨fun q => absurd q (show ¬ (41 : Int32) = 45 by decide), fun _ => ⟨fun q => absurd q (show ¬ (41 : Int32) = 34 by decide), fun _ => ⟨fun q => absurd q (show ¬ (41 : Int32) = 38 by decide), fun _ => ⟨fun q => absurd q (show ¬ (41 : Int32) = 42 by decide), fun _ => ⟨fun q => absurd q (show ¬ (41 : Int32) = 46 by decide), fun _ => ⟨fun q => absurd q (show ¬ (41 : Int32) < 39 by decide), fun _ => ⟨fun q => absurd q (show ¬ zb true = 0 by decide), fun _ => ⟨fun q => absurd q (show ¬ (41 : Int32) = 51 by decide), fun _ => ⟨fun q => absurd q (show ¬ zb true = 0 by decide), fun _ => ⟨fun q => absurd q (show ¬ (41 : Int32) = 32 by decide), fun _ => ⟨fun q => absurd q (show ¬ (41 : Int32) = 36 by decide), fun _ => ⟨fun q => absurd q (show ¬ (41 : Int32) = 40 by decide), fun _ => ⟨fun _ => ⟨fun q => absurd q (show ¬ (41 : Int32) = 33 by decide), fun _ => ⟨fun q => absurd q (show ¬ (41 : Int32) = 37 by decide), fun _ => ⟨fun _ => hp, fun q => absurd (show (41 : Int32) = 41 by decide) q⟩⟩⟩, fun q => absurd (show zb false = 0 by decide) q⟩⟩⟩⟩⟩⟩⟩⟩⟩⟩⟩⟩⟩⟩⟩
theorem mem_41 (h : R1 σ τ) (hop : f_CO_op σ = 41) : P_MO_memories τ 41 (f_CO_rt σ) (f_LS_address σ) ∧ Post (f_LS_store σ) (f_MO_memories τ 41 (f_CO_rt σ) (f_LS_address σ)) := by
  have hal : f_LS_alignmentOf σ 41 = 1 := by
    unfold f_LS_alignmentOf
    decide
  have key : P_MO_memories_159 τ 41 (f_CO_rt σ) (f_LS_address σ) false true 2 ∧ Post (f_LS_store_c1 (f_AS_locateAligned σ (f_LS_address σ) 1 1) 41) (f_MO_memories_159 τ 41 (f_CO_rt σ) (f_LS_address σ) false true 2) := by
    refine mem_ag h (Or.inr (Or.inl ⟨rfl, rfl, rfl⟩)) (Or.inr (Or.inl ⟨rfl, rfl, rfl⟩)) (fun z => f_LS_store_c1 z 41) (fun z hz => ?_) (fun p hp hpB => ⟨Pc2 τ _ _ (vin31 (rtok σ)) hp, ?_⟩)
    · unfold f_LS_store_c1
      rw [if_neg hz]
    · show Post (f_LS_store_c1 (xs_asked σ (f_LS_address σ), lN p) 41) _
      have hA := R1_asked h (f_LS_address σ)
      have hrt : f_CO_rt (xs_asked σ (f_LS_address σ)) = f_CO_rt σ := rfl
      have htt : f_CO_t (xs_asked σ (f_LS_address σ)) = f_CO_t σ := rfl
      rw [c2_keep h, storeC _ hp (by decide), keepC τ (by decide), htt, wordAt_ag hA.1 hp, a3 hp, so_41, t_eq h.1]
      rw [storeN τ hp (by decide)]
      have hr : p % 4 = 0 ∨ p % 4 = 2 := by omega
      rcases hr with hr | hr
      · rw [hr]
        exact Post_ok (putWord_ag hA hp (v_SH0 _ _))
      · rw [hr]
        exact Post_ok (putWord_ag hA hp (v_SH2 _ _))
  unfold f_LS_store
  rw [hop, hal, mm_41]
  exact ⟨mP_41 _ _ _ key.1, key.2⟩
theorem mm_42 (τ : MS) (rt a : Int32) : f_MO_memories τ 42 rt a = f_MO_memories_159 τ 42 rt a true true 1 := by
  have hwi : f_MO_within τ 42 40 46 = true := by
    unfold f_MO_within
    decide
  simp only [f_MO_memories, f_MO_memories_23, f_MO_memories_29, f_MO_memories_34, f_MO_memories_60, f_MO_memories_65, f_MO_memories_84, f_MO_memories_89, f_MO_memories_132, f_MO_memories_154, hwi, if_neg (show ¬ zb true = 0 by decide), if_neg (show ¬ (42 : Int32) = 44 by decide), if_neg (show ¬ (42 : Int32) = 45 by decide), if_neg (show ¬ (42 : Int32) = 34 by decide), if_neg (show ¬ (42 : Int32) = 38 by decide), if_pos (show (42 : Int32) = 42 by decide), if_neg (show ¬ (42 : Int32) < 39 by decide), if_neg (show ¬ (42 : Int32) = 51 by decide), if_neg (show ¬ (42 : Int32) = 32 by decide), if_neg (show ¬ (42 : Int32) = 36 by decide), if_neg (show ¬ (42 : Int32) = 40 by decide), if_true]
theorem mP_42 (τ : MS) (rt a : Int32) (hp : P_MO_memories_159 τ 42 rt a true true 1) : P_MO_memories τ 42 rt a := by
  have hwi : f_MO_within τ 42 40 46 = true := by
    unfold f_MO_within
    decide
  unfold P_MO_memories
  rw [hwi]
  exact ⟨fun q => absurd q (show ¬ zb true = 0 by decide), fun _ => ⟨fun q => absurd q (show ¬ (42 : Int32) = 44 by decide), fun _ => ⟨fun q => absurd q (show ¬ (42 : Int32) = 45 by decide), fun _ => ⟨fun q => absurd q (show ¬ (42 : Int32) = 34 by decide), fun _ => ⟨fun q => absurd q (show ¬ (42 : Int32) = 38 by decide), fun _ => ⟨fun _ => ⟨fun q => absurd q (show ¬ (42 : Int32) < 39 by decide), fun _ => ⟨fun q => absurd q (show ¬ zb true = 0 by decide), fun _ => ⟨fun q => absurd q (show ¬ (42 : Int32) = 51 by decide), fun _ => ⟨fun q => absurd q (show ¬ zb true = 0 by decide), fun _ => ⟨fun q => absurd q (show ¬ (42 : Int32) = 32 by decide), fun _ => ⟨fun q => absurd q (show ¬ (42 : Int32) = 36 by decide), fun _ => ⟨fun q => absurd q (show ¬ (42 : Int32) = 40 by decide), fun _ => ⟨fun q => absurd q (show ¬ zb true = 0 by decide), fun _ => hp⟩⟩⟩⟩⟩⟩⟩⟩, fun q => absurd (show (42 : Int32) = 42 by decide) q⟩⟩⟩⟩⟩⟩
theorem mem_42 (h : R1 σ τ) (hop : f_CO_op σ = 42) : P_MO_memories τ 42 (f_CO_rt σ) (f_LS_address σ) ∧ Post (f_LS_store σ) (f_MO_memories τ 42 (f_CO_rt σ) (f_LS_address σ)) := by
  have hal : f_LS_alignmentOf σ 42 = 0 := by
    unfold f_LS_alignmentOf
    decide
  have key : P_MO_memories_159 τ 42 (f_CO_rt σ) (f_LS_address σ) true true 1 ∧ Post (f_LS_store_c1 (f_AS_locateAligned σ (f_LS_address σ) 1 0) 42) (f_MO_memories_159 τ 42 (f_CO_rt σ) (f_LS_address σ) true true 1) := by
    refine mem_ag h (Or.inr (Or.inl ⟨rfl, rfl, rfl⟩)) (Or.inl ⟨rfl, rfl, rfl⟩) (fun z => f_LS_store_c1 z 42) (fun z hz => ?_) (fun p hp hpB => ⟨Pc2 τ _ _ (vin31 (rtok σ)) hp, ?_⟩)
    · unfold f_LS_store_c1
      rw [if_neg hz]
    · show Post (f_LS_store_c1 (xs_asked σ (f_LS_address σ), lN p) 42) _
      have hA := R1_asked h (f_LS_address σ)
      have hrt : f_CO_rt (xs_asked σ (f_LS_address σ)) = f_CO_rt σ := rfl
      have htt : f_CO_t (xs_asked σ (f_LS_address σ)) = f_CO_t σ := rfl
      rw [c2_part h, storeC _ hp (by decide), htt, wordAt_ag hA.1 hp, a3 hp, so_42]
      have hr : p % 4 = 0 ∨ p % 4 = 1 ∨ p % 4 = 2 ∨ p % 4 = 3 := by omega
      have hsub := lsub hp
      rcases hr with hr | hr | hr | hr
      · unfold f_MO_partly
        rw [lN_i, m4 hp, hr]
        rw [hr] at hsub
        simp only [f_MO_partly_18, f_MO_partly_23, f_MO_partly_41, f_MO_partly_57, f_MO_partly_87, f_MO_partly_126, f_MO_partly_c1, if_neg (show ¬ (42 : Int32) = 34 by decide), if_pos (show (42 : Int32) = 42 by decide), if_neg (show ¬ zb true = 0 by decide), if_pos (show (4 : Int32) - nI 0 = 4 by decide), if_neg (show ¬ (42 : Int32) ≤ 39 by decide), if_true]
        rw [t_eq h.1]
        rw [show (4 : Int32) - nI 0 = 4 by decide, store4 τ hp]
        rw [hr]
        exact Post_ok (putWord_ag hA hp (v_SWL0 _ _))
      · unfold f_MO_partly
        rw [lN_i, m4 hp, hr]
        rw [hr] at hsub
        simp only [f_MO_partly_18, f_MO_partly_23, f_MO_partly_41, f_MO_partly_57, f_MO_partly_87, f_MO_partly_126, f_MO_partly_c1, if_neg (show ¬ (42 : Int32) = 34 by decide), if_pos (show (42 : Int32) = 42 by decide), if_neg (show ¬ zb true = 0 by decide), if_neg (show ¬ (4 : Int32) - nI 1 = 4 by decide), if_neg (show ¬ (42 : Int32) ≤ 39 by decide), if_true]
        rw [t_eq h.1]
        rw [storeN τ hp (n := (4 : Int32) - nI 1) (by decide)]
        rw [hr]
        exact Post_ok (putWord_ag hA hp (v_SWL1 _ _))
      · unfold f_MO_partly
        rw [lN_i, m4 hp, hr]
        rw [hr] at hsub
        simp only [f_MO_partly_18, f_MO_partly_23, f_MO_partly_41, f_MO_partly_57, f_MO_partly_87, f_MO_partly_126, f_MO_partly_c1, if_neg (show ¬ (42 : Int32) = 34 by decide), if_pos (show (42 : Int32) = 42 by decide), if_neg (show ¬ zb true = 0 by decide), if_neg (show ¬ (4 : Int32) - nI 2 = 4 by decide), if_neg (show ¬ (42 : Int32) ≤ 39 by decide), if_true]
        rw [t_eq h.1]
        rw [storeN τ hp (n := (4 : Int32) - nI 2) (by decide)]
        rw [hr]
        exact Post_ok (putWord_ag hA hp (v_SWL2 _ _))
      · unfold f_MO_partly
        rw [lN_i, m4 hp, hr]
        rw [hr] at hsub
        simp only [f_MO_partly_18, f_MO_partly_23, f_MO_partly_41, f_MO_partly_57, f_MO_partly_87, f_MO_partly_126, f_MO_partly_c1, if_neg (show ¬ (42 : Int32) = 34 by decide), if_pos (show (42 : Int32) = 42 by decide), if_neg (show ¬ zb true = 0 by decide), if_neg (show ¬ (4 : Int32) - nI 3 = 4 by decide), if_neg (show ¬ (42 : Int32) ≤ 39 by decide), if_true]
        rw [t_eq h.1]
        rw [storeN τ hp (n := (4 : Int32) - nI 3) (by decide)]
        rw [hr]
        exact Post_ok (putWord_ag hA hp (v_SWL3 _ _))
  unfold f_LS_store
  rw [hop, hal, mm_42]
  exact ⟨mP_42 _ _ _ key.1, key.2⟩
theorem mm_43 (τ : MS) (rt a : Int32) : f_MO_memories τ 43 rt a = f_MO_memories_159 τ 43 rt a false true 4 := by
  have hwi : f_MO_within τ 43 40 46 = true := by
    unfold f_MO_within
    decide
  simp only [f_MO_memories, f_MO_memories_23, f_MO_memories_29, f_MO_memories_34, f_MO_memories_60, f_MO_memories_65, f_MO_memories_84, f_MO_memories_89, f_MO_memories_132, f_MO_memories_154, hwi, if_neg (show ¬ zb true = 0 by decide), if_neg (show ¬ (43 : Int32) = 44 by decide), if_neg (show ¬ (43 : Int32) = 45 by decide), if_neg (show ¬ (43 : Int32) = 34 by decide), if_neg (show ¬ (43 : Int32) = 38 by decide), if_neg (show ¬ (43 : Int32) = 42 by decide), if_neg (show ¬ (43 : Int32) = 46 by decide), if_neg (show ¬ (43 : Int32) < 39 by decide), if_neg (show ¬ (43 : Int32) = 51 by decide), if_neg (show ¬ (43 : Int32) = 32 by decide), if_neg (show ¬ (43 : Int32) = 36 by decide), if_neg (show ¬ (43 : Int32) = 40 by decide), if_pos (show zb false = 0 by decide), if_neg (show ¬ (43 : Int32) = 33 by decide), if_neg (show ¬ (43 : Int32) = 37 by decide), if_neg (show ¬ (43 : Int32) = 41 by decide), if_true]
theorem mP_43 (τ : MS) (rt a : Int32) (hp : P_MO_memories_159 τ 43 rt a false true 4) : P_MO_memories τ 43 rt a := by
  have hwi : f_MO_within τ 43 40 46 = true := by
    unfold f_MO_within
    decide
  unfold P_MO_memories
  rw [hwi]
  exact ⟨fun q => absurd q (show ¬ zb true = 0 by decide), fun _ => ⟨fun q => absurd q (show ¬ (43 : Int32) = 44 by decide), fun _ => ⟨fun q => absurd q (show ¬ (43 : Int32) = 45 by decide), fun _ => ⟨fun q => absurd q (show ¬ (43 : Int32) = 34 by decide), fun _ => ⟨fun q => absurd q (show ¬ (43 : Int32) = 38 by decide), fun _ => ⟨fun q => absurd q (show ¬ (43 : Int32) = 42 by decide), fun _ => ⟨fun q => absurd q (show ¬ (43 : Int32) = 46 by decide), fun _ => ⟨fun q => absurd q (show ¬ (43 : Int32) < 39 by decide), fun _ => ⟨fun q => absurd q (show ¬ zb true = 0 by decide), fun _ => ⟨fun q => absurd q (show ¬ (43 : Int32) = 51 by decide), fun _ => ⟨fun q => absurd q (show ¬ zb true = 0 by decide), fun _ => ⟨fun q => absurd q (show ¬ (43 : Int32) = 32 by decide), fun _ => ⟨fun q => absurd q (show ¬ (43 : Int32) = 36 by decide), fun _ => ⟨fun q => absurd q (show ¬ (43 : Int32) = 40 by decide), fun _ => ⟨fun _ => ⟨fun q => absurd q (show ¬ (43 : Int32) = 33 by decide), fun _ => ⟨fun q => absurd q (show ¬ (43 : Int32) = 37 by decide), fun _ => ⟨fun q => absurd q (show ¬ (43 : Int32) = 41 by decide), fun _ => hp⟩⟩⟩, fun q => absurd (show zb false = 0 by decide) q⟩⟩⟩⟩⟩⟩⟩⟩⟩⟩⟩⟩⟩⟩⟩
theorem mem_43 (h : R1 σ τ) (hop : f_CO_op σ = 43) : P_MO_memories τ 43 (f_CO_rt σ) (f_LS_address σ) ∧ Post (f_LS_store σ) (f_MO_memories τ 43 (f_CO_rt σ) (f_LS_address σ)) := by
  have hal : f_LS_alignmentOf σ 43 = 3 := by
    unfold f_LS_alignmentOf
    decide
  have key : P_MO_memories_159 τ 43 (f_CO_rt σ) (f_LS_address σ) false true 4 ∧ Post (f_LS_store_c1 (f_AS_locateAligned σ (f_LS_address σ) 1 3) 43) (f_MO_memories_159 τ 43 (f_CO_rt σ) (f_LS_address σ) false true 4) := by
    refine mem_ag h (Or.inr (Or.inl ⟨rfl, rfl, rfl⟩)) (Or.inr (Or.inr ⟨rfl, rfl, rfl⟩)) (fun z => f_LS_store_c1 z 43) (fun z hz => ?_) (fun p hp hpB => ⟨Pc2 τ _ _ (vin31 (rtok σ)) hp, ?_⟩)
    · unfold f_LS_store_c1
      rw [if_neg hz]
    · show Post (f_LS_store_c1 (xs_asked σ (f_LS_address σ), lN p) 43) _
      have hA := R1_asked h (f_LS_address σ)
      have hrt : f_CO_rt (xs_asked σ (f_LS_address σ)) = f_CO_rt σ := rfl
      have htt : f_CO_t (xs_asked σ (f_LS_address σ)) = f_CO_t σ := rfl
      rw [c2_keep h, storeC _ hp (by decide), keepC τ (by decide), htt, wordAt_ag hA.1 hp, a3 hp, so_43, t_eq h.1]
      have hr : p % 4 = 0 := by omega
      rw [store4 τ hp, hr]
      exact Post_ok (putWord_ag hA hp (v_SW _ _))
  unfold f_LS_store
  rw [hop, hal, mm_43]
  exact ⟨mP_43 _ _ _ key.1, key.2⟩
theorem mm_46 (τ : MS) (rt a : Int32) : f_MO_memories τ 46 rt a = f_MO_memories_159 τ 46 rt a true true 1 := by
  have hwi : f_MO_within τ 46 40 46 = true := by
    unfold f_MO_within
    decide
  simp only [f_MO_memories, f_MO_memories_23, f_MO_memories_29, f_MO_memories_34, f_MO_memories_60, f_MO_memories_65, f_MO_memories_84, f_MO_memories_89, f_MO_memories_132, f_MO_memories_154, hwi, if_neg (show ¬ zb true = 0 by decide), if_neg (show ¬ (46 : Int32) = 44 by decide), if_neg (show ¬ (46 : Int32) = 45 by decide), if_neg (show ¬ (46 : Int32) = 34 by decide), if_neg (show ¬ (46 : Int32) = 38 by decide), if_neg (show ¬ (46 : Int32) = 42 by decide), if_pos (show (46 : Int32) = 46 by decide), if_neg (show ¬ (46 : Int32) < 39 by decide), if_neg (show ¬ (46 : Int32) = 51 by decide), if_neg (show ¬ (46 : Int32) = 32 by decide), if_neg (show ¬ (46 : Int32) = 36 by decide), if_neg (show ¬ (46 : Int32) = 40 by decide), if_true]
theorem mP_46 (τ : MS) (rt a : Int32) (hp : P_MO_memories_159 τ 46 rt a true true 1) : P_MO_memories τ 46 rt a := by
  have hwi : f_MO_within τ 46 40 46 = true := by
    unfold f_MO_within
    decide
  unfold P_MO_memories
  rw [hwi]
  exact ⟨fun q => absurd q (show ¬ zb true = 0 by decide), fun _ => ⟨fun q => absurd q (show ¬ (46 : Int32) = 44 by decide), fun _ => ⟨fun q => absurd q (show ¬ (46 : Int32) = 45 by decide), fun _ => ⟨fun q => absurd q (show ¬ (46 : Int32) = 34 by decide), fun _ => ⟨fun q => absurd q (show ¬ (46 : Int32) = 38 by decide), fun _ => ⟨fun q => absurd q (show ¬ (46 : Int32) = 42 by decide), fun _ => ⟨fun _ => ⟨fun q => absurd q (show ¬ (46 : Int32) < 39 by decide), fun _ => ⟨fun q => absurd q (show ¬ zb true = 0 by decide), fun _ => ⟨fun q => absurd q (show ¬ (46 : Int32) = 51 by decide), fun _ => ⟨fun q => absurd q (show ¬ zb true = 0 by decide), fun _ => ⟨fun q => absurd q (show ¬ (46 : Int32) = 32 by decide), fun _ => ⟨fun q => absurd q (show ¬ (46 : Int32) = 36 by decide), fun _ => ⟨fun q => absurd q (show ¬ (46 : Int32) = 40 by decide), fun _ => ⟨fun q => absurd q (show ¬ zb true = 0 by decide), fun _ => hp⟩⟩⟩⟩⟩⟩⟩⟩, fun q => absurd (show (46 : Int32) = 46 by decide) q⟩⟩⟩⟩⟩⟩⟩
theorem mem_46 (h : R1 σ τ) (hop : f_CO_op σ = 46) : P_MO_memories τ 46 (f_CO_rt σ) (f_LS_address σ) ∧ Post (f_LS_store σ) (f_MO_memories τ 46 (f_CO_rt σ) (f_LS_address σ)) := by
  have hal : f_LS_alignmentOf σ 46 = 0 := by
    unfold f_LS_alignmentOf
    decide
  have key : P_MO_memories_159 τ 46 (f_CO_rt σ) (f_LS_address σ) true true 1 ∧ Post (f_LS_store_c1 (f_AS_locateAligned σ (f_LS_address σ) 1 0) 46) (f_MO_memories_159 τ 46 (f_CO_rt σ) (f_LS_address σ) true true 1) := by
    refine mem_ag h (Or.inr (Or.inl ⟨rfl, rfl, rfl⟩)) (Or.inl ⟨rfl, rfl, rfl⟩) (fun z => f_LS_store_c1 z 46) (fun z hz => ?_) (fun p hp hpB => ⟨Pc2 τ _ _ (vin31 (rtok σ)) hp, ?_⟩)
    · unfold f_LS_store_c1
      rw [if_neg hz]
    · show Post (f_LS_store_c1 (xs_asked σ (f_LS_address σ), lN p) 46) _
      have hA := R1_asked h (f_LS_address σ)
      have hrt : f_CO_rt (xs_asked σ (f_LS_address σ)) = f_CO_rt σ := rfl
      have htt : f_CO_t (xs_asked σ (f_LS_address σ)) = f_CO_t σ := rfl
      rw [c2_part h, storeC _ hp (by decide), htt, wordAt_ag hA.1 hp, a3 hp, so_46]
      have hr : p % 4 = 0 ∨ p % 4 = 1 ∨ p % 4 = 2 ∨ p % 4 = 3 := by omega
      have hsub := lsub hp
      rcases hr with hr | hr | hr | hr
      · unfold f_MO_partly
        rw [lN_i, m4 hp, hr]
        rw [hr] at hsub
        simp only [f_MO_partly_18, f_MO_partly_23, f_MO_partly_41, f_MO_partly_57, f_MO_partly_87, f_MO_partly_126, f_MO_partly_c1, if_neg (show ¬ (46 : Int32) = 34 by decide), if_neg (show ¬ (46 : Int32) = 42 by decide), if_pos (show zb false = 0 by decide), if_neg (show ¬ nI 0 + (1 : Int32) = 4 by decide), if_neg (show ¬ (46 : Int32) ≤ 39 by decide), hsub, if_true]
        rw [t_eq h.1]
        rw [storeN τ (show p - 0 < 262144 by omega) (n := nI 0 + (1 : Int32)) (by decide)]
        rw [show (p - 0) / 4 = p / 4 by omega, show (p - 0) % 4 = 0 by omega]
        exact Post_ok (putWord_ag hA hp (v_SWR0 _ _))
      · unfold f_MO_partly
        rw [lN_i, m4 hp, hr]
        rw [hr] at hsub
        simp only [f_MO_partly_18, f_MO_partly_23, f_MO_partly_41, f_MO_partly_57, f_MO_partly_87, f_MO_partly_126, f_MO_partly_c1, if_neg (show ¬ (46 : Int32) = 34 by decide), if_neg (show ¬ (46 : Int32) = 42 by decide), if_pos (show zb false = 0 by decide), if_neg (show ¬ nI 1 + (1 : Int32) = 4 by decide), if_neg (show ¬ (46 : Int32) ≤ 39 by decide), hsub, if_true]
        rw [t_eq h.1]
        rw [storeN τ (show p - 1 < 262144 by omega) (n := nI 1 + (1 : Int32)) (by decide)]
        rw [show (p - 1) / 4 = p / 4 by omega, show (p - 1) % 4 = 0 by omega]
        exact Post_ok (putWord_ag hA hp (v_SWR1 _ _))
      · unfold f_MO_partly
        rw [lN_i, m4 hp, hr]
        rw [hr] at hsub
        simp only [f_MO_partly_18, f_MO_partly_23, f_MO_partly_41, f_MO_partly_57, f_MO_partly_87, f_MO_partly_126, f_MO_partly_c1, if_neg (show ¬ (46 : Int32) = 34 by decide), if_neg (show ¬ (46 : Int32) = 42 by decide), if_pos (show zb false = 0 by decide), if_neg (show ¬ nI 2 + (1 : Int32) = 4 by decide), if_neg (show ¬ (46 : Int32) ≤ 39 by decide), hsub, if_true]
        rw [t_eq h.1]
        rw [storeN τ (show p - 2 < 262144 by omega) (n := nI 2 + (1 : Int32)) (by decide)]
        rw [show (p - 2) / 4 = p / 4 by omega, show (p - 2) % 4 = 0 by omega]
        exact Post_ok (putWord_ag hA hp (v_SWR2 _ _))
      · unfold f_MO_partly
        rw [lN_i, m4 hp, hr]
        rw [hr] at hsub
        simp only [f_MO_partly_18, f_MO_partly_23, f_MO_partly_41, f_MO_partly_57, f_MO_partly_87, f_MO_partly_126, f_MO_partly_c1, if_neg (show ¬ (46 : Int32) = 34 by decide), if_neg (show ¬ (46 : Int32) = 42 by decide), if_pos (show zb false = 0 by decide), if_pos (show nI 3 + (1 : Int32) = 4 by decide), if_neg (show ¬ (46 : Int32) ≤ 39 by decide), hsub, if_true]
        rw [t_eq h.1]
        rw [show nI 3 + (1 : Int32) = 4 by decide, store4 τ (show p - 3 < 262144 by omega)]
        rw [show (p - 3) / 4 = p / 4 by omega, show (p - 3) % 4 = 0 by omega]
        exact Post_ok (putWord_ag hA hp (v_SWR3 _ _))
  unfold f_LS_store
  rw [hop, hal, mm_46]
  exact ⟨mP_46 _ _ _ key.1, key.2⟩
theorem mm_56 (τ : MS) (rt a : Int32) : f_MO_memories τ 56 rt a = f_MO_memories_159 τ 56 rt a false true 4 := by
  have hwi : f_MO_within τ 56 40 46 = false := by
    unfold f_MO_within
    decide
  simp only [f_MO_memories, f_MO_memories_23, f_MO_memories_29, f_MO_memories_34, f_MO_memories_60, f_MO_memories_65, f_MO_memories_84, f_MO_memories_89, f_MO_memories_132, f_MO_memories_154, hwi, if_pos (show zb false = 0 by decide), if_pos (show (56 : Int32) = 56 by decide), if_neg (show ¬ (56 : Int32) = 34 by decide), if_neg (show ¬ (56 : Int32) = 38 by decide), if_neg (show ¬ (56 : Int32) = 42 by decide), if_neg (show ¬ (56 : Int32) = 46 by decide), if_neg (show ¬ (56 : Int32) < 39 by decide), if_neg (show ¬ zb true = 0 by decide), if_neg (show ¬ (56 : Int32) = 51 by decide), if_neg (show ¬ (56 : Int32) = 32 by decide), if_neg (show ¬ (56 : Int32) = 36 by decide), if_neg (show ¬ (56 : Int32) = 40 by decide), if_neg (show ¬ (56 : Int32) = 33 by decide), if_neg (show ¬ (56 : Int32) = 37 by decide), if_neg (show ¬ (56 : Int32) = 41 by decide), if_true]
theorem mP_56 (τ : MS) (rt a : Int32) (hp : P_MO_memories_159 τ 56 rt a false true 4) : P_MO_memories τ 56 rt a := by
  have hwi : f_MO_within τ 56 40 46 = false := by
    unfold f_MO_within
    decide
  unfold P_MO_memories
  rw [hwi]
  exact ⟨fun _ => ⟨fun _ => ⟨fun q => absurd q (show ¬ (56 : Int32) = 34 by decide), fun _ => ⟨fun q => absurd q (show ¬ (56 : Int32) = 38 by decide), fun _ => ⟨fun q => absurd q (show ¬ (56 : Int32) = 42 by decide), fun _ => ⟨fun q => absurd q (show ¬ (56 : Int32) = 46 by decide), fun _ => ⟨fun q => absurd q (show ¬ (56 : Int32) < 39 by decide), fun _ => ⟨fun q => absurd q (show ¬ zb true = 0 by decide), fun _ => ⟨fun q => absurd q (show ¬ (56 : Int32) = 51 by decide), fun _ => ⟨fun q => absurd q (show ¬ zb true = 0 by decide), fun _ => ⟨fun q => absurd q (show ¬ (56 : Int32) = 32 by decide), fun _ => ⟨fun q => absurd q (show ¬ (56 : Int32) = 36 by decide), fun _ => ⟨fun q => absurd q (show ¬ (56 : Int32) = 40 by decide), fun _ => ⟨fun _ => ⟨fun q => absurd q (show ¬ (56 : Int32) = 33 by decide), fun _ => ⟨fun q => absurd q (show ¬ (56 : Int32) = 37 by decide), fun _ => ⟨fun q => absurd q (show ¬ (56 : Int32) = 41 by decide), fun _ => hp⟩⟩⟩, fun q => absurd (show zb false = 0 by decide) q⟩⟩⟩⟩⟩⟩⟩⟩⟩⟩⟩⟩, fun q => absurd (show (56 : Int32) = 56 by decide) q⟩, fun q => absurd (show zb false = 0 by decide) q⟩
theorem mem_56 (h : R1 σ τ) (hop : f_CO_op σ = 56) : P_MO_memories τ 56 (f_CO_rt σ) (f_LS_address σ) ∧ Post (f_LS_store σ) (f_MO_memories τ 56 (f_CO_rt σ) (f_LS_address σ)) := by
  have hal : f_LS_alignmentOf σ 56 = 3 := by
    unfold f_LS_alignmentOf
    decide
  have key : P_MO_memories_159 τ 56 (f_CO_rt σ) (f_LS_address σ) false true 4 ∧ Post (f_LS_store_c1 (f_AS_locateAligned σ (f_LS_address σ) 1 3) 56) (f_MO_memories_159 τ 56 (f_CO_rt σ) (f_LS_address σ) false true 4) := by
    refine mem_ag h (Or.inr (Or.inl ⟨rfl, rfl, rfl⟩)) (Or.inr (Or.inr ⟨rfl, rfl, rfl⟩)) (fun z => f_LS_store_c1 z 56) (fun z hz => ?_) (fun p hp hpB => ⟨Pc2 τ _ _ (vin31 (rtok σ)) hp, ?_⟩)
    · unfold f_LS_store_c1
      rw [if_neg hz]
    · show Post (f_LS_store_c1 (xs_asked σ (f_LS_address σ), lN p) 56) _
      have hA := R1_asked h (f_LS_address σ)
      have hrt : f_CO_rt (xs_asked σ (f_LS_address σ)) = f_CO_rt σ := rfl
      have htt : f_CO_t (xs_asked σ (f_LS_address σ)) = f_CO_t σ := rfl
      rw [c2_keep h]
      unfold f_LS_store_c1 f_LS_store_57 f_LS_store_c2 f_LS_store_90 f_LS_store_c3 f_LS_endLink f_LS_endLink_c1 f_LS_endLink_c2 f_MO_keep f_MO_keep_14 f_MO_keep_c1 f_MO_keep_27 f_MO_keep_c2 f_MO_keep_c3
      have hl : x_link (xs_asked σ (f_LS_address σ)) = m_link τ := R_link hA.1
      simp only [if_pos (lge0 hp), if_pos (show (56 : Int32) = 56 by decide), lN_i, hl, put_link]
      by_cases e1 : m_link τ = 1
      · rw [if_pos e1, if_pos e1, store4 τ hp, so_56, htt, t_eq h.1]
        have hr : p % 4 = 0 := by omega
        rw [hr, ← v_SW]
        have hB := putWord_ag hA hp (v := f_CO_t σ) rfl
        exact Post_put (R1_link hB 0) (rtok _) (R_link hB.1)
      · rw [if_neg e1, if_neg e1]
        exact Post_put (R1_link hA 0) (rtok _) rfl
  unfold f_LS_store
  rw [hop, hal, mm_56]
  exact ⟨mP_56 _ _ _ key.1, key.2⟩
end MOP
