section EN2
variable {σ : XS} {τ : MS}
theorem r_sys_slot (τ : MS) (f : Bool) : m_sys (ms_slot τ f) = m_sys τ := id rfl
theorem r_sys_pc (τ : MS) (f : Int32) : m_sys (ms_pc τ f) = m_sys τ := id rfl
theorem r_faults_slot (τ : MS) (f : Bool) : m_faults (ms_slot τ f) = m_faults τ := id rfl
theorem r_faults_pc (τ : MS) (f : Int32) : m_faults (ms_pc τ f) = m_faults τ := id rfl
theorem r_fault_slot (τ : MS) (f : Bool) : m_fault (ms_slot τ f) = m_fault τ := id rfl
theorem r_fault_pc (τ : MS) (f : Int32) : m_fault (ms_pc τ f) = m_fault τ := id rfl
theorem r_faults_sys (τ : MS) (f : Nat → Int32) : m_faults (ms_sys τ f) = m_faults τ := id rfl
theorem r_fault_sys (τ : MS) (f : Nat → Int32) : m_fault (ms_sys τ f) = m_fault τ := id rfl
theorem r_refills_sys (τ : MS) (f : Nat → Int32) : m_refills (ms_sys τ f) = m_refills τ := id rfl
theorem r_hasAddress_sys (τ : MS) (f : Nat → Int32) : m_hasAddress (ms_sys τ f) = m_hasAddress τ := id rfl
theorem r_faultAt_sys (τ : MS) (f : Nat → Int32) : m_faultAt (ms_sys τ f) = m_faultAt τ := id rfl
theorem r_unit_sys (τ : MS) (f : Nat → Int32) : m_unit (ms_sys τ f) = m_unit τ := id rfl
theorem r_slot_sys (τ : MS) (f : Nat → Int32) : m_slot (ms_sys τ f) = m_slot τ := id rfl
theorem r_pc_sys (τ : MS) (f : Nat → Int32) : m_pc (ms_sys τ f) = m_pc τ := id rfl
def fbU (τ : MS) : Nat → Int32 := upd (m_faults τ) (Int32.toNatClampNeg (m_fault τ)) (m_faults τ (Int32.toNatClampNeg (m_fault τ)) + (1 : Int32))
theorem e200 (τ : MS) (v : Bool) : f_MO_enter_200 τ v = ms_faults (ms_sys (ms_slot (ms_pc τ (tgt v (m_refills τ))) false) (upd (m_sys τ) 12 (m_sys τ 12 ||| 2))) (fbU τ) := by
  unfold f_MO_enter_200 tgt fbU
  cases hr : m_refills τ <;> cases v <;> simp (decide := true) only [zb, reduceIte, f_MO_enter_217, f_MO_enter_219, f_MO_enter_c7, f_MO_enter_c8, f_MO_enter_c9, i_MO_enter_c10, c12, r_sys_slot, r_sys_pc, r_faults_sys, r_faults_slot, r_faults_pc, r_fault_sys, r_fault_slot, r_fault_pc, Bool.true_and, Bool.false_and, Bool.and_false, Bool.and_true]
def mcx (τ : MS) : Int32 := ((m_fault τ) <<< ((2 : Int32) &&& 31)) ||| (if m_fault τ = 11 then (m_unit τ) <<< ((28 : Int32) &&& 31) else 0)
def mE (τ0 : MS) (τ : MS) (NA : (Nat → Int32) → Nat → Int32) (V : Nat → Int32) (v : Bool) : MS := ms_faults (ms_sys (ms_slot (ms_pc (ms_sys τ (vW NA V (mcx τ0))) (tgt v (m_refills τ0))) false) (vZ NA V (mcx τ0))) (fbU τ0)
def NAok (τ : MS) (NA : (Nat → Int32) → Nat → Int32) : Prop := (m_hasAddress τ = false ∧ NA = id) ∨ (m_hasAddress τ = true ∧ 4 ≤ m_fault τ ∧ NA = NAa (m_faultAt τ)) ∨ (m_hasAddress τ = true ∧ ¬ 4 ≤ m_fault τ ∧ NA = NAt (m_faultAt τ))
theorem fbU_sys (τ : MS) (f : Nat → Int32) : fbU (ms_sys τ f) = fbU τ := id rfl
theorem mcx_sys (τ : MS) (f : Nat → Int32) : mcx (ms_sys τ f) = mcx τ := id rfl
theorem e76 (τ : MS) (v : Bool) {NA : (Nat → Int32) → Nat → Int32} (h : NAok τ NA) : f_MO_enter_76 τ v = mE τ τ NA (m_sys τ) v := by
  have e119 : f_MO_enter_76 τ v = f_MO_enter_c3 (ms_sys τ (upd (m_sys τ) 13 ((m_sys τ 13 &&& (-805306493 : Int32)) ||| mcx τ))) v := by
    unfold f_MO_enter_76 mcx
    by_cases e : m_fault τ = 11
    · simp only [if_pos e, f_MO_enter_119, c13, Int32.or_assoc]
    · simp only [if_neg e, f_MO_enter_119, c13, Int32.or_assoc]
  rw [e119]
  unfold f_MO_enter_c3 mE vZ vW
  rw [r_hasAddress_sys]
  rcases h with ⟨h1, rfl⟩ | ⟨h1, h2, rfl⟩ | ⟨h1, h2, rfl⟩
  · simp (decide := true) only [h1, zb, reduceIte, e200, mv, r_refills_sys, fbU_sys, id]
  · simp (decide := true) only [h1, zb, reduceIte, f_MO_enter_c4, r_fault_sys, if_pos h2, e200, mv, ms_vv, r_refills_sys, r_faultAt_sys, c8, fbU_sys, NAa]
  · simp (decide := true) only [h1, zb, reduceIte, f_MO_enter_c4, f_MO_enter_c5, f_MO_enter_c6, r_fault_sys, if_neg h2, e200, mv, ms_vv, r_refills_sys, r_faultAt_sys, c8, c4, c10, fbU_sys, NAt]
    rw [pk_un (show 4 ≠ 8 by decide), pk_un (show 10 ≠ 4 by decide), pk_un (show 10 ≠ 8 by decide)]
theorem mE_sys (τ : MS) (f : Nat → Int32) (NA : (Nat → Int32) → Nat → Int32) (V : Nat → Int32) (v : Bool) : mE (ms_sys τ f) (ms_sys τ f) NA V v = mE τ τ NA V v := by
  unfold mE
  simp only [ms_vv, fbU_sys, mcx_sys, r_refills_sys]
theorem eM (τ : MS) {NA : (Nat → Int32) → Nat → Int32} (h : NAok τ NA) {first : Bool} (hfst : bt (m_sys τ 12) 1 = !first) : f_MO_enter τ = mE τ τ NA (v1 (m_sys τ) (m_pc τ) (m_slot τ) first) first := by
  have hsys : ∀ f, NAok (ms_sys τ f) NA := fun f => h
  unfold f_MO_enter
  rw [isIn1, hfst]
  cases first
  · simp (decide := true) only [zb, reduceIte, f_MO_enter_13, Bool.not_false]
    exact e76 τ false h
  · simp (decide := true) only [zb, reduceIte, f_MO_enter_13, Bool.not_true]
    cases hs : m_slot τ
    · simp (decide := true) only [zb, reduceIte, f_MO_enter_44, f_MO_enter_c1, f_MO_enter_74, f_MO_enter_c2, r_slot_sys, hs, mv, ms_vv, c14, c13]
      rw [e76 _ true (hsys _), mE_sys]
      simp only [mv]
      rw [pk_un (show 13 ≠ 14 by decide)]
      rfl
    · simp (decide := true) only [zb, reduceIte, f_MO_enter_44, f_MO_enter_c1, f_MO_enter_74, f_MO_enter_c2, r_slot_sys, hs, mv, ms_vv, c14, c13]
      rw [e76 _ true (hsys _), mE_sys]
      simp only [mv]
      rw [pk_un (show 13 ≠ 14 by decide)]
      rfl
theorem mcomm (τ : MS) (W Z FB : Nat → Int32) (t : Int32) : ms_faults (ms_sys (ms_slot (ms_pc (ms_sys τ W) t) false) Z) FB = ms_slot (ms_pc (ms_sys (ms_faults τ FB) Z) t) false := by
  unfold ms_faults ms_sys ms_slot ms_pc
  rfl
theorem sok_v1 {V : Nat → Int32} (h : sysOK V) (pc : Int32) (ds first : Bool) : sysOK (v1 V pc ds first) := by
  unfold v1
  cases first
  · exact h
  · exact sok_upd (sok_upd h _ (by decide) (by decide) (by decide)) _ (by decide) (by decide) (by decide)
theorem sok_vZ {V : Nat → Int32} (h : sysOK V) {NA : (Nat → Int32) → Nat → Int32} (hNA : ∀ V, sysOK V → sysOK (NA V)) (cx : Int32) : sysOK (vZ NA V cx) := sok_upd (hNA _ (sok_upd h _ (by decide) (by decide) (by decide))) _ (by decide) (by decide) (by decide)
theorem sok_NAt (a : Int32) (V : Nat → Int32) (h : sysOK V) : sysOK (NAt a V) := sok_upd (sok_upd (sok_upd h _ (by decide) (by decide) (by decide)) _ (by decide) (by decide) (by decide)) _ (by decide) (by decide) (by decide)
theorem sok_NAa (a : Int32) (V : Nat → Int32) (h : sysOK V) : sysOK (NAa a V) := sok_upd h _ (by decide) (by decide) (by decide)
theorem P_enter (τ : MS) (hv : vp_in (m_fault τ) 14) : P_MO_enter τ := by
  have h200 : ∀ τ' v, m_fault τ' = m_fault τ → P_MO_enter_200 τ' v := fun τ' v e => by
    have hv2 : vp_in (m_fault τ') 14 := by
      rw [e]
      exact hv
    have h219 : ∀ w, P_MO_enter_219 τ' w := fun w => ⟨hv2, hv2, trivial⟩
    exact ⟨fun _ => h219 _, fun _ => ⟨fun _ => h219 _, fun _ => h219 _⟩⟩
  have h76 : ∀ τ' v, m_fault τ' = m_fault τ → P_MO_enter_76 τ' v := fun τ' v e => by
    have h119 : ∀ a b, P_MO_enter_119 τ' v a b := fun a b => ⟨fun _ => h200 _ _ e, fun _ => ⟨fun _ => h200 _ _ e, fun _ => h200 _ _ e⟩⟩
    exact ⟨fun _ => h119 _ _, fun _ => h119 _ _⟩
  have h44 : ∀ v w, P_MO_enter_44 τ v w := fun v w => ⟨fun _ => h76 _ _ rfl, fun _ => h76 _ _ rfl⟩
  have h13 : ∀ w, P_MO_enter_13 τ w := fun w => ⟨fun _ => h76 _ _ rfl, fun _ => ⟨fun _ => h44 _ _, fun _ => h44 _ _⟩⟩
  exact ⟨fun _ => h13 _, fun _ => h13 _⟩
theorem ent_core (h : Rel σ τ) {r : Int32} {c : Nat} (hc : c < 14) (hcode : r &&& (15 : Int32) = nI c) (hfc : m_fault τ = nI c) (hcx : ((((r / (32 : Int32)) &&& (3 : Int32)) <<< ((28 : Int32) &&& 31))) ||| ((nI c) <<< ((2 : Int32) &&& 31)) = mcx τ) (hrf : f_FA_isRefill σ r = m_refills τ) {NA : (Nat → Int32) → Nat → Int32} (hok : NAok τ NA) (hsok : ∀ V, sysOK V → sysOK (NA V)) (hNA : ∀ σ' : XS, f_SR_noteAddress σ' (nI c) (x_asked σ) = xs_values σ' (NA (x_values σ'))) : P_MO_enter τ ∧ Rel (f_PR_enter σ r) (f_MO_enter τ) := by
  constructor
  · apply P_enter
    rw [hfc]
    exact nI_in hc (by omega)
  · have hfst : bt (m_sys τ 12) 1 = !(!(bt (m_sys τ 12) 1)) := by simp
    rw [eM τ hok hfst]
    unfold f_PR_enter f_FA_codeOf
    rw [hcode, if_neg (show ¬ (14 : Int32) ≤ nI c from nI_ge (b := 14) hc (by omega)), nI_clamp (by omega), R_fbc h]
    have hFB : upd (m_faults τ) c (m_faults τ c + 1) = fbU τ := by
      unfold fbU
      rw [hfc, nI_clamp (by omega)]
    rw [hFB]
    unfold f_PR_enter_c1 f_PR_enter_21 f_AS_lastAsked
    have hval : x_values (xs_fbc σ (fbU τ)) = m_sys τ := (R_values h : x_values σ = m_sys τ)
    have hpc : x_pc (xs_fbc σ (fbU τ)) = m_pc τ := (R_pc h : x_pc σ = m_pc τ)
    have hsl : x_inds (xs_fbc σ (fbU τ)) = m_slot τ := (R_inds h : x_inds σ = m_slot τ)
    have hask : x_asked (xs_fbc σ (fbU τ)) = x_asked σ := rfl
    rw [hpc, hsl, hask, eF (xs_fbc σ (fbU τ)) hcode (m_pc τ) (m_slot τ) (x_asked σ) hNA (rf := m_refills τ) hrf (first := !(bt (m_sys τ 12) 1)) (by rw [hval]; exact hfst), hval, hcx]
    unfold f_PR_enter_c2 f_CO_restartAt f_CO_restartAt_c1 mE
    rw [i_PR_enter_c3, i_CO_restartAt_c2, mcomm]
    exact U_inds (U_pc (U_values (U_fbc h (fbU τ)) _ (sok_vZ (sok_v1 (R_sok h) _ _ _) hsok _)) _) false
theorem ent_ag (h : Rel σ τ) {r : Int32} (hF : Fa r (x_asked σ) τ) : P_MO_enter τ ∧ Rel (f_PR_enter σ r) (f_MO_enter τ) := by
  rcases hF with ⟨h1, h2, h3, hr⟩ | ⟨h1, h2, h3, hr⟩ | ⟨h1, h2, h3, h4, hr⟩ | ⟨h1, h2, h3, hr⟩
  · rcases hr with rfl | rfl | rfl | rfl | rfl | rfl | rfl | rfl
    · refine ent_core h (c := 0) (by decide) (by decide) h3.symm ?_ ?_ (NA := id) (Or.inl ⟨h1, rfl⟩) (fun V q => q) (fun σ' => na_none σ' (by decide) (by decide) (by decide) (by decide) (by decide) _)
      · unfold mcx
        rw [← h3, if_neg (show ¬ (0 : Int32) = 11 by decide)]
        decide
      · rw [h2]
        unfold f_FA_isRefill
        decide
    · refine ent_core h (c := 6) (by decide) (by decide) h3.symm ?_ ?_ (NA := id) (Or.inl ⟨h1, rfl⟩) (fun V q => q) (fun σ' => na_none σ' (by decide) (by decide) (by decide) (by decide) (by decide) _)
      · unfold mcx
        rw [← h3, if_neg (show ¬ (6 : Int32) = 11 by decide)]
        decide
      · rw [h2]
        unfold f_FA_isRefill
        decide
    · refine ent_core h (c := 7) (by decide) (by decide) h3.symm ?_ ?_ (NA := id) (Or.inl ⟨h1, rfl⟩) (fun V q => q) (fun σ' => na_none σ' (by decide) (by decide) (by decide) (by decide) (by decide) _)
      · unfold mcx
        rw [← h3, if_neg (show ¬ (7 : Int32) = 11 by decide)]
        decide
      · rw [h2]
        unfold f_FA_isRefill
        decide
    · refine ent_core h (c := 8) (by decide) (by decide) h3.symm ?_ ?_ (NA := id) (Or.inl ⟨h1, rfl⟩) (fun V q => q) (fun σ' => na_none σ' (by decide) (by decide) (by decide) (by decide) (by decide) _)
      · unfold mcx
        rw [← h3, if_neg (show ¬ (8 : Int32) = 11 by decide)]
        decide
      · rw [h2]
        unfold f_FA_isRefill
        decide
    · refine ent_core h (c := 9) (by decide) (by decide) h3.symm ?_ ?_ (NA := id) (Or.inl ⟨h1, rfl⟩) (fun V q => q) (fun σ' => na_none σ' (by decide) (by decide) (by decide) (by decide) (by decide) _)
      · unfold mcx
        rw [← h3, if_neg (show ¬ (9 : Int32) = 11 by decide)]
        decide
      · rw [h2]
        unfold f_FA_isRefill
        decide
    · refine ent_core h (c := 10) (by decide) (by decide) h3.symm ?_ ?_ (NA := id) (Or.inl ⟨h1, rfl⟩) (fun V q => q) (fun σ' => na_none σ' (by decide) (by decide) (by decide) (by decide) (by decide) _)
      · unfold mcx
        rw [← h3, if_neg (show ¬ (10 : Int32) = 11 by decide)]
        decide
      · rw [h2]
        unfold f_FA_isRefill
        decide
    · refine ent_core h (c := 12) (by decide) (by decide) h3.symm ?_ ?_ (NA := id) (Or.inl ⟨h1, rfl⟩) (fun V q => q) (fun σ' => na_none σ' (by decide) (by decide) (by decide) (by decide) (by decide) _)
      · unfold mcx
        rw [← h3, if_neg (show ¬ (12 : Int32) = 11 by decide)]
        decide
      · rw [h2]
        unfold f_FA_isRefill
        decide
    · refine ent_core h (c := 13) (by decide) (by decide) h3.symm ?_ ?_ (NA := id) (Or.inl ⟨h1, rfl⟩) (fun V q => q) (fun σ' => na_none σ' (by decide) (by decide) (by decide) (by decide) (by decide) _)
      · unfold mcx
        rw [← h3, if_neg (show ¬ (13 : Int32) = 11 by decide)]
        decide
      · rw [h2]
        unfold f_FA_isRefill
        decide
  · rcases hr with ⟨rfl, hu⟩ | ⟨rfl, hu⟩ | ⟨rfl, hu⟩ | ⟨rfl, hu⟩
    · refine ent_core h (c := 11) (by decide) (by decide) h3 ?_ ?_ (NA := id) (Or.inl ⟨h1, rfl⟩) (fun V q => q) (fun σ' => na_none σ' (by decide) (by decide) (by decide) (by decide) (by decide) _)
      · unfold mcx
        rw [h3, hu]
        decide
      · rw [h2]
        unfold f_FA_isRefill
        decide
    · refine ent_core h (c := 11) (by decide) (by decide) h3 ?_ ?_ (NA := id) (Or.inl ⟨h1, rfl⟩) (fun V q => q) (fun σ' => na_none σ' (by decide) (by decide) (by decide) (by decide) (by decide) _)
      · unfold mcx
        rw [h3, hu]
        decide
      · rw [h2]
        unfold f_FA_isRefill
        decide
    · refine ent_core h (c := 11) (by decide) (by decide) h3 ?_ ?_ (NA := id) (Or.inl ⟨h1, rfl⟩) (fun V q => q) (fun σ' => na_none σ' (by decide) (by decide) (by decide) (by decide) (by decide) _)
      · unfold mcx
        rw [h3, hu]
        decide
      · rw [h2]
        unfold f_FA_isRefill
        decide
    · refine ent_core h (c := 11) (by decide) (by decide) h3 ?_ ?_ (NA := id) (Or.inl ⟨h1, rfl⟩) (fun V q => q) (fun σ' => na_none σ' (by decide) (by decide) (by decide) (by decide) (by decide) _)
      · unfold mcx
        rw [h3, hu]
        decide
      · rw [h2]
        unfold f_FA_isRefill
        decide
  · rcases hr with rfl | rfl | rfl | rfl | rfl
    · refine ent_core h (c := 1) (by decide) (by decide) h4.symm ?_ ?_ (NA := NAt (m_faultAt τ)) (Or.inr (Or.inr ⟨h1, by rw [← h4]; decide, rfl⟩)) (fun V q => sok_NAt _ V q) (fun σ' => by rw [h2]; exact na_tlb σ' (by decide) _)
      · unfold mcx
        rw [← h4, if_neg (show ¬ (1 : Int32) = 11 by decide)]
        decide
      · rw [h3]
        unfold f_FA_isRefill
        decide
    · refine ent_core h (c := 2) (by decide) (by decide) h4.symm ?_ ?_ (NA := NAt (m_faultAt τ)) (Or.inr (Or.inr ⟨h1, by rw [← h4]; decide, rfl⟩)) (fun V q => sok_NAt _ V q) (fun σ' => by rw [h2]; exact na_tlb σ' (by decide) _)
      · unfold mcx
        rw [← h4, if_neg (show ¬ (2 : Int32) = 11 by decide)]
        decide
      · rw [h3]
        unfold f_FA_isRefill
        decide
    · refine ent_core h (c := 3) (by decide) (by decide) h4.symm ?_ ?_ (NA := NAt (m_faultAt τ)) (Or.inr (Or.inr ⟨h1, by rw [← h4]; decide, rfl⟩)) (fun V q => sok_NAt _ V q) (fun σ' => by rw [h2]; exact na_tlb σ' (by decide) _)
      · unfold mcx
        rw [← h4, if_neg (show ¬ (3 : Int32) = 11 by decide)]
        decide
      · rw [h3]
        unfold f_FA_isRefill
        decide
    · refine ent_core h (c := 4) (by decide) (by decide) h4.symm ?_ ?_ (NA := NAa (m_faultAt τ)) (Or.inr (Or.inl ⟨h1, by rw [← h4]; decide, rfl⟩)) (fun V q => sok_NAa _ V q) (fun σ' => by rw [h2]; exact na_adr σ' (by decide) _)
      · unfold mcx
        rw [← h4, if_neg (show ¬ (4 : Int32) = 11 by decide)]
        decide
      · rw [h3]
        unfold f_FA_isRefill
        decide
    · refine ent_core h (c := 5) (by decide) (by decide) h4.symm ?_ ?_ (NA := NAa (m_faultAt τ)) (Or.inr (Or.inl ⟨h1, by rw [← h4]; decide, rfl⟩)) (fun V q => sok_NAa _ V q) (fun σ' => by rw [h2]; exact na_adr σ' (by decide) _)
      · unfold mcx
        rw [← h4, if_neg (show ¬ (5 : Int32) = 11 by decide)]
        decide
      · rw [h3]
        unfold f_FA_isRefill
        decide
  · rcases hr with ⟨rfl, h4⟩ | ⟨rfl, h4⟩
    · refine ent_core h (c := 2) (by decide) (by decide) h4 ?_ ?_ (NA := NAt (m_faultAt τ)) (Or.inr (Or.inr ⟨h1, by rw [h4]; decide, rfl⟩)) (fun V q => sok_NAt _ V q) (fun σ' => by rw [h2]; exact na_tlb σ' (by decide) _)
      · unfold mcx
        rw [h4, if_neg (show ¬ (2 : Int32) = 11 by decide)]
        decide
      · rw [h3]
        unfold f_FA_isRefill
        decide
    · refine ent_core h (c := 3) (by decide) (by decide) h4 ?_ ?_ (NA := NAt (m_faultAt τ)) (Or.inr (Or.inr ⟨h1, by rw [h4]; decide, rfl⟩)) (fun V q => sok_NAt _ V q) (fun σ' => by rw [h2]; exact na_tlb σ' (by decide) _)
      · unfold mcx
        rw [h4, if_neg (show ¬ (3 : Int32) = 11 by decide)]
        decide
      · rw [h3]
        unfold f_FA_isRefill
        decide
end EN2
