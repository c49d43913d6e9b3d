section ZER
theorem log2_sh {u k : Nat} (h : 2 ^ k ≤ u) : Nat.log2 u = Nat.log2 (u / 2 ^ k) + k := by
  have hp : 0 < 2 ^ k := Nat.two_pow_pos k
  have hq : u / 2 ^ k ≠ 0 := by
    have := Nat.div_pos h hp
    omega
  have hu : u ≠ 0 := by omega
  have h1 := Nat.log2_self_le hq
  have h2 := Nat.lt_log2_self (n := u / 2 ^ k)
  rw [Nat.log2_eq_iff hu]
  constructor
  · rw [Nat.pow_add]
    exact Nat.le_trans (Nat.mul_le_mul_right _ h1) (Nat.div_mul_le_self _ _)
  · have h3 := (Nat.div_lt_iff_lt_mul hp).1 h2
    rw [← Nat.pow_add] at h3
    rw [show Nat.log2 (u / 2 ^ k) + k + 1 = Nat.log2 (u / 2 ^ k) + 1 + k by omega]
    exact h3
def Zn (n : Nat) : Nat := if n = 0 then 32 else 31 - Nat.log2 n
theorem fz0 (v : Int32) : ((v &&& (1 : Int32)) = 0) ↔ bt v 0 = false := by
  constructor
  · intro h
    have e := congrArg (fun z => bt z 0) h
    simpa [b_and, bc_1, b_0] using e
  · intro h
    refine b_ext (b_all ?_ ?_ ?_ ?_ ?_ ?_ ?_ ?_ ?_ ?_ ?_ ?_ ?_ ?_ ?_ ?_ ?_ ?_ ?_ ?_ ?_ ?_ ?_ ?_ ?_ ?_ ?_ ?_ ?_ ?_ ?_ ?_) <;> simp [b_and, b_0, bc_1, h]
theorem s_l : ∀ n, n < 32 → ((nI n &&& 31).toBitVec.smod 32).toNat = n := by decide +kernel
theorem bt_tb (x : Int32) (i : Nat) : bt x i = x.toBitVec.toNat.testBit i := (BitVec.testBit_toNat x.toBitVec).symm
theorem zt (x : Int32) {k : Nat} (hk : k < 32) : ((x >>> (nI k &&& 31)) &&& (1 : Int32)) = 0 ↔ x.toBitVec.toNat.testBit k = false := by
  rw [fz0, b_sshrg x _ k (s_l k hk) (by decide), Nat.add_zero, if_pos hk, bt_tb]
theorem tb_lt {n k : Nat} (h : n < 2 ^ (k + 1)) : n.testBit k = false ↔ n < 2 ^ k := by
  have hp : 0 < 2 ^ k := Nat.two_pow_pos k
  rw [Nat.testBit_eq_decide_div_mod_eq, decide_eq_false_iff_not]
  have h2 : n / 2 ^ k < 2 := by
    rw [Nat.div_lt_iff_lt_mul hp, Nat.mul_comm, ← Nat.pow_succ]
    exact h
  constructor
  · intro q
    have h3 : ∀ z : Nat, z < 2 → ¬ z % 2 = 1 → z = 0 := by
      intro z
      omega
    exact (Nat.div_eq_zero_iff_lt hp).1 (h3 _ h2 q)
  · intro q
    rw [(Nat.div_eq_zero_iff_lt hp).2 q]
    decide
theorem mo_zeros (τ : MS) (x : Int32) : ∀ m j, m + j = 32 → x.toBitVec.toNat < 2 ^ m → f_MO_zeros_2 (m + 1) τ x (nI j) = nI (Zn x.toBitVec.toNat)
  | 0, j, e, h => by
    have : j = 32 := by omega
    subst this
    have e2 : x.toBitVec.toNat = 0 := by omega
    rw [f_MO_zeros_2, if_pos (by decide), e2]
    rfl
  | m + 1, j, e, h => by
    have e1 : (31 : Int32) - nI j = nI m := by
      rw [show (31 : Int32) = nI 31 from rfl, pk_sub (by omega)]
      congr 1
      omega
    rw [f_MO_zeros_2, if_neg (show ¬ (32 : Int32) ≤ nI j from nI_ge (b := 32) (by omega) (by omega)), e1, nI_1]
    by_cases hb : x.toBitVec.toNat.testBit m = false
    · rw [if_pos ((zt x (by omega)).2 hb)]
      exact mo_zeros τ x m (j + 1) (by omega) ((tb_lt h).1 hb)
    · rw [if_neg (fun q => hb ((zt x (by omega)).1 q))]
      have hge : 2 ^ m ≤ x.toBitVec.toNat := by
        rcases Nat.lt_or_ge x.toBitVec.toNat (2 ^ m) with q | q
        · exact absurd ((tb_lt h).2 q) hb
        · exact q
      have hn0 : x.toBitVec.toNat ≠ 0 := by
        have := Nat.two_pow_pos m
        omega
      have hl : Nat.log2 x.toBitVec.toNat = m := (Nat.log2_eq_iff hn0).2 ⟨hge, h⟩
      unfold Zn
      rw [if_neg hn0, hl]
      congr 1
      omega
theorem zeros_eq (τ : MS) (x : Int32) : f_MO_zeros τ x = nI (Zn x.toBitVec.toNat) := mo_zeros τ x 32 0 rfl x.toBitVec.isLt
theorem sub_k (v : Int32) (m k : Nat) : v + -(nI k) - nI m = v - nI (m + k) := by
  rw [← nI_add]
  generalize nI k = y
  generalize nI m = z
  apply Int32.toBitVec_inj.1
  rw [Int32.toBitVec_sub, Int32.toBitVec_add, Int32.toBitVec_neg, Int32.toBitVec_sub, Int32.toBitVec_add]
  generalize v.toBitVec = a
  generalize y.toBitVec = b
  generalize z.toBitVec = c
  bv_omega
variable {σ : XS} {a : Int32}
theorem nlz73 (v : Int32) {u : Nat} (h0 : 0 < u) (h : u < 4) : f_IN_numberOfLeadingZeros_73 σ a v (nI u) = v - nI (Nat.log2 u) := by
  unfold f_IN_numberOfLeadingZeros_73
  rw [pk_ushrN (by omega) 1 1 (by decide)]
  have : u = 1 ∨ u = 2 ∨ u = 3 := by omega
  rcases this with rfl | rfl | rfl <;> rfl

theorem nlz61 (v : Int32) {u : Nat} (h0 : 0 < u) (h : u < 16) : f_IN_numberOfLeadingZeros_61 σ a v (nI u) = v - nI (Nat.log2 u) := by
  unfold f_IN_numberOfLeadingZeros_61
  by_cases q : u < 4
  · rw [if_pos (show nI u < (4 : Int32) from nI_lt (b := 4) q (by omega)), nlz73 v h0 q]
  · rw [if_neg (show ¬ nI u < (4 : Int32) from nI_nlt (b := 4) (by omega) (by omega)), pk_ushrN (by omega) 2 2 (by decide), nlz73 _ (by omega) (by omega), log2_sh (u := u) (k := 2) (by omega)]
    exact sub_k v _ 2
theorem nlz48 (v : Int32) {u : Nat} (h0 : 0 < u) (h : u < 256) : f_IN_numberOfLeadingZeros_48 σ a v (nI u) = v - nI (Nat.log2 u) := by
  unfold f_IN_numberOfLeadingZeros_48
  by_cases q : u < 16
  · rw [if_pos (show nI u < (16 : Int32) from nI_lt (b := 16) q (by omega)), nlz61 v h0 q]
  · rw [if_neg (show ¬ nI u < (16 : Int32) from nI_nlt (b := 16) (by omega) (by omega)), pk_ushrN (by omega) 4 4 (by decide), nlz61 _ (by omega) (by omega), log2_sh (u := u) (k := 4) (by omega)]
    exact sub_k v _ 4
theorem nlz33 (v : Int32) {u : Nat} (h0 : 0 < u) (h : u < 65536) : f_IN_numberOfLeadingZeros_33 σ a v (nI u) = v - nI (Nat.log2 u) := by
  unfold f_IN_numberOfLeadingZeros_33
  by_cases q : u < 256
  · rw [if_pos (show nI u < (256 : Int32) from nI_lt (b := 256) q (by omega)), nlz48 v h0 q]
  · rw [if_neg (show ¬ nI u < (256 : Int32) from nI_nlt (b := 256) (by omega) (by omega)), pk_ushrN (by omega) 8 8 (by decide), nlz48 _ (by omega) (by omega), log2_sh (u := u) (k := 8) (by omega)]
    exact sub_k v _ 8
theorem nlz_eq (σ : XS) (x : Int32) : f_IN_numberOfLeadingZeros σ x = nI (Zn x.toBitVec.toNat) := by
  have hc := toInt_c x
  have hlt := x.toBitVec.isLt
  have hxn : x = nI x.toBitVec.toNat := by
    apply eq_tn.2
    rw [pk_tn hlt]
  unfold f_IN_numberOfLeadingZeros
  by_cases h0 : 0 < x
  · rw [if_pos h0]
    rw [Int32.lt_iff_toInt_lt, show (0 : Int32).toInt = 0 by decide] at h0
    have hn : x.toBitVec.toNat < 2 ^ 31 ∧ 0 < x.toBitVec.toNat := by
      split at hc <;> omega
    have e31 : ∀ m : Nat, m ≤ 31 → (31 : Int32) - nI m = nI (31 - m) := fun m hm => by
      rw [show (31 : Int32) = nI 31 from rfl, pk_sub hm]
    have hz : Zn x.toBitVec.toNat = 31 - Nat.log2 x.toBitVec.toNat := by
      unfold Zn
      rw [if_neg (by omega)]
    have hl : Nat.log2 x.toBitVec.toNat ≤ 31 := by
      have := (Nat.log2_lt (n := x.toBitVec.toNat) (k := 31) (by omega)).2 hn.1
      omega
    rw [hz]
    generalize x.toBitVec.toNat = n at *
    subst hxn
    by_cases q : n < 65536
    · rw [if_pos (show nI n < (65536 : Int32) from nI_lt (b := 65536) q (by omega)), nlz33 _ hn.2 q, e31 _ hl]
    · rw [if_neg (show ¬ nI n < (65536 : Int32) from nI_nlt (b := 65536) (by omega) (by omega)), pk_ushrN (by omega) 16 16 (by decide), nlz33 _ (by omega) (by omega), show (31 : Int32) + (-16 : Int32) - nI (Nat.log2 (n / 2 ^ 16)) = 31 - nI (Nat.log2 (n / 2 ^ 16) + 16) from sub_k 31 _ 16, ← log2_sh (u := n) (k := 16) (by omega), e31 _ hl]
  · rw [if_neg h0]
    by_cases e : x = 0
    · subst e
      rfl
    · rw [if_neg e]
      have e2 : x.toBitVec.toNat ≠ 0 := fun q => e (eq_tn.2 q)
      rw [Int32.lt_iff_toInt_lt, show (0 : Int32).toInt = 0 by decide] at h0
      have hn : 2 ^ 31 ≤ x.toBitVec.toNat := by
        split at hc <;> omega
      have hl : Nat.log2 x.toBitVec.toNat = 31 := (Nat.log2_eq_iff e2).2 ⟨hn, hlt⟩
      unfold Zn
      rw [if_neg e2, hl]
      rfl
theorem zeros_ag (σ : XS) (τ : MS) (x : Int32) : f_IN_numberOfLeadingZeros σ x = f_MO_zeros τ x := by
  rw [nlz_eq, zeros_eq]
end ZER
