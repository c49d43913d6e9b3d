section SYS
variable {σ : XS} {τ : MS}
theorem c12 : Int32.toNatClampNeg (12 : Int32) = 12 := by decide
theorem c13 : Int32.toNatClampNeg (13 : Int32) = 13 := by decide
theorem c10 : Int32.toNatClampNeg (10 : Int32) = 10 := by decide
theorem c0 : Int32.toNatClampNeg (0 : Int32) = 0 := by decide
theorem c1 : Int32.toNatClampNeg (1 : Int32) = 1 := by decide
theorem c2 : Int32.toNatClampNeg (2 : Int32) = 2 := by decide
theorem c3 : Int32.toNatClampNeg (3 : Int32) = 3 := by decide
theorem c4 : Int32.toNatClampNeg (4 : Int32) = 4 := by decide
theorem c5 : Int32.toNatClampNeg (5 : Int32) = 5 := by decide
theorem c6 : Int32.toNatClampNeg (6 : Int32) = 6 := by decide
theorem c8 : Int32.toNatClampNeg (8 : Int32) = 8 := by decide
theorem c9 : Int32.toNatClampNeg (9 : Int32) = 9 := by decide
theorem c11 : Int32.toNatClampNeg (11 : Int32) = 11 := by decide
theorem c14 : Int32.toNatClampNeg (14 : Int32) = 14 := by decide
theorem isIn0 (τ : MS) : f_MO_isIn τ 0 = bt (m_sys τ 12) 0 := by
  unfold f_MO_isIn
  rw [c12]
  by_cases h : bt (m_sys τ 12) 0 = true
  · rw [if_pos ((isb0 _).2 h), h]
  · rw [if_neg (fun e => h ((isb0 _).1 e))]
    simpa using h
theorem isIn1 (τ : MS) : f_MO_isIn τ 1 = bt (m_sys τ 12) 1 := by
  unfold f_MO_isIn
  rw [c12]
  by_cases h : bt (m_sys τ 12) 1 = true
  · rw [if_pos ((isb1 _).2 h), h]
  · rw [if_neg (fun e => h ((isb1 _).1 e))]
    simpa using h
theorem isIn4 (τ : MS) : f_MO_isIn τ 4 = bt (m_sys τ 12) 4 := by
  unfold f_MO_isIn
  rw [c12]
  by_cases h : bt (m_sys τ 12) 4 = true
  · rw [if_pos ((isb4 _).2 h), h]
  · rw [if_neg (fun e => h ((isb4 _).1 e))]
    simpa using h
theorem isIn28 (τ : MS) : f_MO_isIn τ 28 = bt (m_sys τ 12) 28 := by
  unfold f_MO_isIn
  rw [c12]
  by_cases h : bt (m_sys τ 12) 28 = true
  · rw [if_pos ((isb28 _).2 h), h]
  · rw [if_neg (fun e => h ((isb28 _).1 e))]
    simpa using h
theorem user_ag (h : Rel σ τ) : f_SR_inUserMode σ = f_MO_isUser τ := by
  unfold f_SR_inUserMode f_MO_isUser
  rw [isIn4, isIn1, R_values h, c12]
  have e := fl18 (m_sys τ 12)
  cases h4 : bt (m_sys τ 12) 4 <;> cases h1 : bt (m_sys τ 12) 1 <;> simp [h4, h1] at e <;> simp [e, zb]
theorem may_ag (h : Rel σ τ) : f_SR_mayUseSystem σ = !(f_MO_isUser τ && !(f_MO_isIn τ 28)) := by
  unfold f_SR_mayUseSystem f_SR_mayUseSystem_20
  rw [user_ag h, isIn28, R_values h, c12]
  have e := fz28 (m_sys τ 12)
  cases h4 : bt (m_sys τ 12) 28 <;> cases h1 : f_MO_isUser τ <;> simp [h4] at e <;> simp [e, zb]
theorem ln_or (v t : Int32) (b0 b1 b2 b3 b4 b5 : Bool) : (v ||| ((((if b0 then (1 : Int32) else 0) ||| (if b1 then 2 else 0) ||| (if b2 then 4 else 0) ||| (if b3 then 8 else 0) ||| (if b4 then 16 else 0) ||| (if b5 then 32 else 0))) <<< ((10 : Int32) &&& 31))) ||| t = v ||| (((if b0 then (1024 : Int32) else 0) ||| (if b1 then 2048 else 0) ||| (if b2 then 4096 else 0) ||| (if b3 then 8192 else 0) ||| (if b4 then 16384 else 0) ||| (if b5 then 32768 else 0)) ||| t) := by
  rw [Int32.or_assoc]
  congr 2
  revert b0 b1 b2 b3 b4 b5
  decide
theorem or_if (v c : Int32) (b : Bool) : (if zb b = 0 then v else v ||| c) = v ||| (if b then c else 0) := by
  cases b <;> simp [zb]
theorem rd_step (τ : MS) (n : Nat) (k : Int32) (v : Int32) (hk : ¬ (6 : Int32) ≤ k) (hk5 : ¬ k = 5) : f_MO_read_23 (n + 1) τ 13 k v = f_MO_read_23 n τ 13 (k + 1) (v ||| (if m_lines τ (Int32.toNatClampNeg k) then ((1 : Int32) <<< (((10 : Int32) + k) &&& 31)) else 0)) := by
  rw [f_MO_read_23, if_neg hk]
  cases hb : m_lines τ (Int32.toNatClampNeg k)
  · simp [zb, hk5]
  · simp [zb]
theorem rd_step5 (τ : MS) (n : Nat) (v : Int32) : f_MO_read_23 (n + 2) τ 13 5 v = v ||| (if (m_lines τ 5 || m_timer τ) then 32768 else 0) := by
  rw [f_MO_read_23, if_neg (by decide), c5]
  have e6 : (5 : Int32) + 1 = 6 := by decide
  have e7 : ((1 : Int32) <<< (((10 : Int32) + 5) &&& 31)) = 32768 := by decide
  rw [e6, e7]
  have ef : ∀ w, f_MO_read_23 (n + 1) τ 13 6 w = w := fun w => by rw [f_MO_read_23, if_pos (by decide)]
  rw [ef, ef]
  cases hb : m_lines τ 5 <;> cases ht : m_timer τ <;> simp [zb]
theorem read13 (h : Rel σ τ) : f_SR_read σ 13 = f_MO_read τ 13 := by
  unfold f_MO_read f_SR_read f_SR_read_38
  rw [if_pos rfl, if_pos rfl, R_values h, R_lines h, R_timer h, c13]
  rw [rd_step τ 6 0 _ (by decide) (by decide)]
  have a1 : (0 : Int32) + 1 = 1 := by decide
  have a2 : (1 : Int32) + 1 = 2 := by decide
  have a3 : (2 : Int32) + 1 = 3 := by decide
  have a4 : (3 : Int32) + 1 = 4 := by decide
  have a5 : (4 : Int32) + 1 = 5 := by decide
  rw [a1, rd_step τ 5 1 _ (by decide) (by decide), a2, rd_step τ 4 2 _ (by decide) (by decide), a3, rd_step τ 3 3 _ (by decide) (by decide), a4, rd_step τ 2 4 _ (by decide) (by decide), a5, rd_step5, c0, c1, c2, c3, c4]
  have b1 : ((1 : Int32) <<< (((10 : Int32) + 0) &&& 31)) = 1024 := by decide
  have b2 : ((1 : Int32) <<< (((10 : Int32) + 1) &&& 31)) = 2048 := by decide
  have b3 : ((1 : Int32) <<< (((10 : Int32) + 2) &&& 31)) = 4096 := by decide
  have b4 : ((1 : Int32) <<< (((10 : Int32) + 3) &&& 31)) = 8192 := by decide
  have b5 : ((1 : Int32) <<< (((10 : Int32) + 4) &&& 31)) = 16384 := by decide
  rw [b1, b2, b3, b4, b5]
  have e13 : (13 : Int32) &&& 31 = 13 := by decide
  rw [e13, c13]
  unfold lnB
  generalize m_lines τ 0 = p0
  generalize m_lines τ 1 = p1
  generalize m_lines τ 2 = p2
  generalize m_lines τ 3 = p3
  generalize m_lines τ 4 = p4
  generalize m_lines τ 5 = p5
  generalize m_sys τ 13 = v
  generalize m_timer τ = t
  have key : ∀ t : Int32, (v ||| ((((if p0 then (1 : Int32) else 0) ||| (if p1 then 2 else 0) ||| (if p2 then 4 else 0) ||| (if p3 then 8 else 0) ||| (if p4 then 16 else 0) ||| (if p5 then 32 else 0))) <<< ((10 : Int32) &&& 31))) ||| t = _ := fun t => ln_or v t p0 p1 p2 p3 p4 p5
  cases t
  · rw [if_pos (show zb false = 0 by decide), key]
    simp only [Int32.or_assoc, Bool.or_false, Int32.or_zero]
  · rw [if_neg (show ¬ zb true = 0 by decide), key]
    simp only [Int32.or_assoc, Bool.or_true]
    cases p5 <;> simp
theorem read_ag (h : Rel σ τ) {a : Int32} (ha : a &&& (31 : Int32) = a) : f_SR_read σ a = f_MO_read τ a := by
  by_cases e : a = 13
  · subst e
    exact read13 h
  · unfold f_SR_read f_MO_read
    rw [if_neg e, if_neg e, ha, R_values h]
theorem bits_ag : ∀ k : Nat, k < 32 → ∀ τ : MS, f_MO_bitsOf τ (nI k) = wbI k := by
  intro k hk τ
  unfold f_MO_bitsOf
  revert k
  decide +kernel
end SYS
