section LOC
variable {σ : XS} {τ : MS}
theorem toInt_c (a : Int32) : a.toInt = if 2 * a.toBitVec.toNat < 2 ^ 32 then (a.toBitVec.toNat : Int) else (a.toBitVec.toNat : Int) - 2 ^ 32 := BitVec.toInt_eq_toNat_cond a.toBitVec
theorem eq_tn {x y : Int32} : x = y ↔ x.toBitVec.toNat = y.toBitVec.toNat := ⟨fun h => by rw [h], fun h => Int32.toBitVec_inj.1 (BitVec.eq_of_toNat_eq h)⟩
theorem dir_ag (a : Int32) : (((Int32.toUInt32 a >>> (Int32.toUInt32 (30 : Int32) &&& Int32.toUInt32 31)).toInt32) = (2 : Int32)) ↔ (¬ 0 ≤ a ∧ a < (-1073741824 : Int32)) := by
  have h1 := toInt_c a
  have h2 := pk_ushr a 30 30 (by decide)
  have h3 := a.toBitVec.isLt
  rw [eq_tn, h2, Int32.le_iff_toInt_le, Int32.lt_iff_toInt_lt, show (0 : Int32).toInt = 0 by decide, show (-1073741824 : Int32).toInt = -1073741824 by decide, show (2 : Int32).toBitVec.toNat = 2 by decide]
  split at h1 <;> omega
theorem lsh12 {q r : Nat} (hq : q < 2 ^ 20) (hr : r < 4096) : (lN q <<< (Int32.toInt64 (12 : Int32) &&& 63)) ||| lN r = lN (q * 4096 + r) := by
  apply Int64.toBitVec_inj.1
  rw [Int64.toBitVec_or, Int64.toBitVec_shiftLeft]
  apply BitVec.eq_of_toNat_eq
  show (BitVec.ofNat 64 q <<< ((Int32.toInt64 (12 : Int32) &&& 63).toBitVec.smod 64).toNat ||| BitVec.ofNat 64 r).toNat = (BitVec.ofNat 64 (q * 4096 + r)).toNat
  rw [show ((Int32.toInt64 (12 : Int32) &&& 63).toBitVec.smod 64).toNat = 12 by decide, BitVec.toNat_or, BitVec.toNat_shiftLeft, BitVec.toNat_ofNat, BitVec.toNat_ofNat, BitVec.toNat_ofNat, Nat.shiftLeft_eq, Nat.mod_eq_of_lt (a := q) (by omega), Nat.mod_eq_of_lt (a := r) (by omega), Nat.mod_eq_of_lt (by omega), Nat.mod_eq_of_lt (by omega)]
  have := Nat.two_pow_add_eq_or_of_lt (i := 12) hr q
  rw [Nat.mul_comm (2 ^ 12) q] at this
  omega
theorem hf26 {H : Int32} (h : H &&& (67108862 : Int32) = H) : ∃ w : Nat, w < 2 ^ 26 ∧ H = nI w := by
  have e : H &&& (67108863 : Int32) = H := by
    rw [← h, Int32.and_assoc]
    rfl
  obtain ⟨w, hw, e2⟩ := pk_andE H (m := 67108863) 26 (by decide)
  exact ⟨w, hw, e.symm.trans e2⟩
theorem place_ag {H : Int32} (h : H &&& (67108862 : Int32) = H) (a : Int32) : ∃ p : Nat, p < 2 ^ 40 ∧ p % 4096 = a.toBitVec.toNat % 4096 ∧ ((Int32.toInt64 ((Int32.toUInt32 H >>> (Int32.toUInt32 (6 : Int32) &&& Int32.toUInt32 31)).toInt32)) <<< (Int32.toInt64 (12 : Int32) &&& 63)) ||| (Int32.toInt64 (a &&& (4095 : Int32))) = lN p ∧ ((Int32.toInt64 ((H >>> ((6 : Int32) &&& 31)) &&& (1048575 : Int32))) * (4096 : Int64)) + (Int32.toInt64 (a &&& (4095 : Int32))) = lN p := by
  obtain ⟨w, hw, rfl⟩ := hf26 h
  have e := pk_and a (m := 4095) 12 (by decide)
  have hr : a.toBitVec.toNat % 2 ^ 12 < 4096 := by omega
  refine ⟨w / 64 * 4096 + a.toBitVec.toNat % 2 ^ 12, by omega, by omega, ?_, ?_⟩
  · rw [pk_ushrN (by omega) 6 6 (by decide), nI_l (by omega), e, nI_l (by omega)]
    exact lsh12 (by omega) hr
  · rw [pk_shrN (by omega) _ 6 (by decide), pk_andN (by omega) (m := 1048575) 20 (by decide), nI_l (by omega), e, nI_l (by omega), show (4096 : Int64) = lN 4096 from rfl, lN_mul, lN_add, Nat.mod_eq_of_lt (by omega)]
def HW (w f : Bool) (how : Int32) : Prop := (w = false ∧ f = false ∧ how = 0) ∨ (w = true ∧ f = false ∧ how = 1) ∨ (w = false ∧ f = true ∧ how = 2)
def Lok (L : Int64) (M : MS × Int64) (τ : MS) (a : Int32) : Prop :=
  (∃ p : Nat, p < 262144 ∧ p % 4096 = a.toBitVec.toNat % 4096 ∧ L = lN p ∧ M = (τ, lN p)) ∨
  (∃ c : Int32, (c = 6 ∨ c = 7) ∧ L = Int32.toInt64 (-1 - c) ∧ M = (ms_fault τ c, -1)) ∨
  (∃ c : Int32, (c = 1 ∨ c = 2 ∨ c = 3 ∨ c = 4 ∨ c = 5) ∧ L = Int32.toInt64 (-1 - c) ∧ M = ((f_MO_wrong τ c a).1, -1)) ∨
  (∃ c : Int32, (c = 2 ∨ c = 3) ∧ L = Int32.toInt64 (-1 - (c + 16)) ∧ M = (ms_refills (f_MO_wrong τ c a).1 true, -1))
theorem fin_ag (a : Int32) {w f : Bool} {how : Int32} (hw : HW w f how) {p : Nat} (hp : p < 2 ^ 40) (hpa : p % 4096 = a.toBitVec.toNat % 4096) : Lok (f_AS_locate_60 σ a how (lN p)) (f_MO_physical_172 τ a w f (lN p)) τ a := by
  unfold f_AS_locate_60 f_MO_physical_172 f_ME_has f_AS_locate_93 f_MO_physical_193 f_MO_physical_c4 f_AS_faulty
  have e0 : ¬ lg_cmp (lN p) 0 < 0 := by
    rw [lg_cmp_lt, show (0 : Int64) = lN 0 from rfl, pk_lLT (by omega) (by omega)]
    omega
  have e1 : 0 ≤ lg_cmp (lN p) 262144 ↔ 262144 ≤ p := by
    rw [lg_cmp_ge, show (262144 : Int64) = lN 262144 from rfl, pk_lLE (by omega) (by omega)]
  have e2 : lg_cmp (lN p) 262144 < 0 ↔ p < 262144 := by
    rw [lg_cmp_lt, show (262144 : Int64) = lN 262144 from rfl, pk_lLT (by omega) (by omega)]
  rw [if_neg e0, if_neg e0]
  by_cases h : p < 262144
  · have a1 : (if 0 ≤ lg_cmp (lN p) 262144 then false else true) = true := if_neg (fun q => by have := e1.1 q; omega)
    rw [a1, if_neg (show ¬ zb true = 0 by decide), if_pos (e2.2 h)]
    exact Or.inl ⟨p, h, hpa, rfl, rfl⟩
  · have a1 : (if 0 ≤ lg_cmp (lN p) 262144 then false else true) = false := if_pos (e1.2 (by omega))
    rw [a1, if_pos (show zb false = 0 by decide), if_neg (fun q => h (e2.1 q))]
    rcases hw with ⟨rfl, rfl, rfl⟩ | ⟨rfl, rfl, rfl⟩ | ⟨rfl, rfl, rfl⟩
    · exact Or.inr (Or.inl ⟨7, Or.inr rfl, rfl, rfl⟩)
    · exact Or.inr (Or.inl ⟨7, Or.inr rfl, rfl, rfl⟩)
    · exact Or.inr (Or.inl ⟨6, Or.inl rfl, rfl, rfl⟩)
theorem Pt127 (τ : MS) (a : Int32) (w f : Bool) (x y : Int32) : P_MO_physical_127 τ a w f x y := ⟨fun _ => trivial, fun _ => trivial⟩
theorem Pt172 (τ : MS) (a : Int32) (w f : Bool) (x : Int64) : P_MO_physical_172 τ a w f x := ⟨fun _ => trivial, fun _ => ⟨fun _ => trivial, fun _ => trivial⟩⟩
theorem Pt150 (τ : MS) (a : Int32) (w f : Bool) (x : Int32) : P_MO_physical_150 τ a w f x := Pt172 _ _ _ _ _
def mis (w : Bool) : Int32 := if zb w = 0 then 2 else 3
theorem map_ag (h : Rel σ τ) (a : Int32) {w f : Bool} {how : Int32} (hw : HW w f how) : P_MO_physical_58 τ a w f (mis w) ∧ Lok (f_AS_locate_60 σ a how (f_AS_locateMapped σ a how)) (f_MO_physical_58 τ a w f (mis w)) τ a := by
  have hm := match_ag h a
  have hmis : mis w = 2 ∨ mis w = 3 := by cases w <;> decide
  have hmh : (if how = 1 then (3 : Int32) else 2) = mis w := by
    rcases hw with ⟨rfl, rfl, rfl⟩ | ⟨rfl, rfl, rfl⟩ | ⟨rfl, rfl, rfl⟩ <;> decide
  have h5 : ∀ c : Int32, (c = 2 ∨ c = 3) → (c = 1 ∨ c = 2 ∨ c = 3 ∨ c = 4 ∨ c = 5) := fun c hc => by
    rcases hc with rfl | rfl <;> decide
  have h6 : ∀ c : Int32, (c = 2 ∨ c = 3) → (c = 1 ∨ c = 2 ∨ c = 3 ∨ c = 18 ∨ c = 19) := fun c hc => by
    rcases hc with rfl | rfl <;> decide
  have h7 : ∀ c : Int32, (c = 2 ∨ c = 3) → (c + 16 = 1 ∨ c + 16 = 2 ∨ c + 16 = 3 ∨ c + 16 = 18 ∨ c + 16 = 19) := fun c hc => by
    rcases hc with rfl | rfl <;> decide
  have hneg : ∀ c : Int32, (c = 1 ∨ c = 2 ∨ c = 3 ∨ c = 18 ∨ c = 19) → f_AS_locate_60 σ a how (Int32.toInt64 (-1 - c)) = Int32.toInt64 (-1 - c) := by
    intro c hc
    unfold f_AS_locate_60
    rw [if_pos]
    rcases hc with rfl | rfl | rfl | rfl | rfl <;> decide
  rcases entryOf_r τ (a &&& (-8192 : Int32)) with he | ⟨e, he, hE⟩
  · have hloc : f_AS_locateMapped σ a how = f_AS_faulty σ ((if how = 1 then 3 else 2) + 16) := by
      unfold f_AS_locateMapped f_AS_locateMapped_10
      rw [hm, he, if_pos rfl, if_pos rfl]
      split <;> rfl
    constructor
    · unfold P_MO_physical_58
      rw [he]
      exact ⟨fun q => absurd q (by decide), fun _ => trivial⟩
    · rw [hloc]
      unfold f_MO_physical_58 f_AS_faulty
      rw [he, if_neg (show ¬ (0 : Int32) ≤ -1 by decide)]
      rw [hmh]
      exact Or.inr (Or.inr (Or.inr ⟨mis w, hmis, hneg _ (h7 _ hmis), rfl⟩))
  · obtain ⟨b, hb, eb⟩ := pk_andE (a >>> ((12 : Int32) &&& 31)) (m := 1) 1 (by decide)
    have eix : ((2 : Int32) * nI e) + nI b = nI (2 * e + b) := by
      rw [show (2 : Int32) = nI 2 from rfl, pk_mul, nI_add]
    have hhalf : f_TL_halfOf σ (nI e) (((Int32.toUInt32 a >>> (Int32.toUInt32 (12 : Int32) &&& Int32.toUInt32 31)).toInt32) &&& (1 : Int32)) = m_halves τ (2 * e + b) := by
      rw [← fld12, eb]
      unfold f_TL_halfOf
      rw [and31n he, nI_clamp (by omega), R_even h, R_odd h]
      have : b = 0 ∨ b = 1 := by omega
      rcases this with rfl | rfl
      · rw [if_pos nI_0, Nat.add_zero]
      · rw [if_neg (by decide)]
    have hH := R_hok h (2 * e + b)
    constructor
    · unfold P_MO_physical_58
      rw [hE, eb, eix]
      refine ⟨fun _ => ⟨nI_in (by omega) (by omega), fun _ => Pt127 _ _ _ _ _ _, fun _ => ⟨fun _ => Pt150 _ _ _ _ _, fun _ => ⟨fun _ => Pt127 _ _ _ _ _ _, fun _ => Pt150 _ _ _ _ _⟩⟩⟩, fun q => absurd (nI_pos' (by omega)) q⟩
    · have hloc : f_AS_locateMapped σ a how = (if (m_halves τ (2 * e + b) &&& (2 : Int32)) = 0 then f_AS_faulty σ (if how = 1 then 3 else 2) else if how = 1 then (if (m_halves τ (2 * e + b) &&& (4 : Int32)) = 0 then f_AS_faulty σ 1 else f_AS_locateMapped_90 σ a how (m_halves τ (2 * e + b))) else f_AS_locateMapped_90 σ a how (m_halves τ (2 * e + b))) := by
        unfold f_AS_locateMapped f_AS_locateMapped_10
        rw [hm, hE, hhalf, if_neg (show ¬ nI e = -1 from fun q => absurd (q ▸ nI_pos' (by omega) : (0 : Int32) ≤ -1) (by decide)), if_neg (show ¬ nI e = -1 from fun q => absurd (q ▸ nI_pos' (by omega) : (0 : Int32) ≤ -1) (by decide))]
        by_cases hh : how = 1
        · simp only [hh, if_true]
        · simp only [hh, if_false]
      rw [hloc]
      unfold f_MO_physical_58
      rw [hE, eb, eix, nI_clamp (by omega), if_pos (nI_pos' (by omega))]
      generalize m_halves τ (2 * e + b) = H at hH
      obtain ⟨p, hp, hpa, e1, e2⟩ := place_ag hH a
      have hfin := fin_ag (σ := σ) (τ := τ) a hw hp hpa
      unfold f_MO_physical_127 f_MO_physical_150 f_MO_physical_141 f_MO_physical_c5 f_AS_locateMapped_90 f_AS_faulty
      rw [e1, e2]
      by_cases h2 : (H &&& (2 : Int32)) = 0
      · rw [if_pos h2, if_pos h2, if_pos h2]
        rw [hmh]
        exact Or.inr (Or.inr (Or.inl ⟨mis w, h5 _ hmis, hneg _ (h6 _ hmis), rfl⟩))
      · rw [if_neg h2, if_neg h2]
        by_cases h4 : (H &&& (4 : Int32)) = 0
        · rw [if_pos h4, if_pos h4, if_neg h2]
          rcases hw with ⟨rfl, rfl, rfl⟩ | ⟨rfl, rfl, rfl⟩ | ⟨rfl, rfl, rfl⟩
          · rw [if_neg (by decide), if_pos (by decide)]
            exact hfin
          · rw [if_pos rfl, if_neg (by decide)]
            exact Or.inr (Or.inr (Or.inl ⟨1, by decide, hneg 1 (by decide), rfl⟩))
          · rw [if_neg (by decide), if_pos (by decide)]
            exact hfin
        · rw [if_neg h4, if_neg h4]
          rw [ite_self, ite_self]
          exact hfin
theorem phys_eq (τ : MS) (a : Int32) (w f : Bool) : f_MO_physical τ a w f = f_MO_physical_9 τ a w f (mis w) := by
  unfold f_MO_physical mis
  cases w <;> rfl
theorem loc_ag (h : Rel σ τ) (a : Int32) {w f : Bool} {how : Int32} (hw : HW w f how) : P_MO_physical τ a w f ∧ Lok (f_AS_locate σ a how) (f_MO_physical τ a w f) τ a := by
  have hP : P_MO_physical_9 τ a w f (mis w) → P_MO_physical τ a w f := by
    unfold P_MO_physical mis
    cases w
    · exact fun q => ⟨fun _ => q, fun z => absurd (by decide) z⟩
    · exact fun q => ⟨fun z => absurd z (by decide), fun _ => q⟩
  rw [phys_eq]
  have hmap := map_ag h a hw
  have hu := user_ag h
  have er := pk_and a (m := 536870911) 29 (by decide)
  have hdir := fin_ag (σ := σ) (τ := τ) a hw (p := a.toBitVec.toNat % 2 ^ 29) (by omega) (by omega)
  have hd := dir_ag a
  have h28 : Lok (f_AS_locate_28 σ a how) (f_MO_physical_48 τ a w f (Int32.toInt64 (a &&& (536870911 : Int32))) (mis w)) τ a ∧ P_MO_physical_48 τ a w f (Int32.toInt64 (a &&& (536870911 : Int32))) (mis w) := by
    unfold f_AS_locate_28 f_AS_locate_41 f_MO_physical_48 P_MO_physical_48
    rw [er, nI_l (by omega)]
    refine ⟨?_, fun _ => hmap.1, fun _ => ⟨fun _ => Pt172 _ _ _ _ _, fun _ => hmap.1⟩⟩
    by_cases h0 : 0 ≤ a
    · rw [if_pos h0, if_neg (fun q => (hd.1 q).1 h0)]
      exact hmap.2
    · rw [if_neg h0]
      by_cases h1 : a < (-1073741824 : Int32)
      · rw [if_pos h1, if_pos (hd.2 ⟨h0, h1⟩)]
        exact hdir
      · rw [if_neg h1, if_neg (fun q => h1 (hd.1 q).2)]
        exact hmap.2
  have hPP : P_MO_physical_9 τ a w f (mis w) := ⟨fun _ => h28.2, fun _ => ⟨fun _ => h28.2, fun _ => ⟨fun _ => trivial, fun _ => trivial⟩⟩⟩
  refine ⟨hP hPP, ?_⟩
  unfold f_AS_locate f_MO_physical_9 f_AS_locate_24 f_MO_physical_39 f_MO_physical_c1 f_AS_faulty
  by_cases h0 : 0 ≤ a
  · rw [if_pos h0, if_pos h0]
    exact h28.1
  · rw [if_neg h0, if_neg h0, hu]
    by_cases h1 : zb (f_MO_isUser τ) = 0
    · rw [if_pos h1, if_pos h1]
      exact h28.1
    · rw [if_neg h1, if_neg h1]
      rcases hw with ⟨rfl, rfl, rfl⟩ | ⟨rfl, rfl, rfl⟩ | ⟨rfl, rfl, rfl⟩
      · exact Or.inr (Or.inr (Or.inl ⟨4, by decide, rfl, rfl⟩))
      · exact Or.inr (Or.inr (Or.inl ⟨5, by decide, rfl, rfl⟩))
      · exact Or.inr (Or.inr (Or.inl ⟨4, by decide, rfl, rfl⟩))
end LOC
