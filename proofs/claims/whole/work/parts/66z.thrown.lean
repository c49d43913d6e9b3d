section THR
theorem th_ite (c : Prop) [Decidable c] (a b : MS) : m_thrown (if c then a else b) = if c then m_thrown a else m_thrown b := by split <;> rfl
theorem th_iteb (c : Prop) [Decidable c] (a b : MS × Bool) : m_thrown (if c then a else b).1 = if c then m_thrown a.1 else m_thrown b.1 := by split <;> rfl
theorem th_itei (c : Prop) [Decidable c] (a b : MS × Int32) : m_thrown (if c then a else b).1 = if c then m_thrown a.1 else m_thrown b.1 := by split <;> rfl
theorem th_itel (c : Prop) [Decidable c] (a b : MS × Int64) : m_thrown (if c then a else b).1 = if c then m_thrown a.1 else m_thrown b.1 := by split <;> rfl
theorem th_ms_hi (τ : MS) (v : Int32) : m_thrown (ms_hi τ v) = m_thrown τ := id rfl
theorem th_ms_lo (τ : MS) (v : Int32) : m_thrown (ms_lo τ v) = m_thrown τ := id rfl
theorem th_ms_pc (τ : MS) (v : Int32) : m_thrown (ms_pc τ v) = m_thrown τ := id rfl
theorem th_ms_target (τ : MS) (v : Int32) : m_thrown (ms_target τ v) = m_thrown τ := id rfl
theorem th_ms_link (τ : MS) (v : Int32) : m_thrown (ms_link τ v) = m_thrown τ := id rfl
theorem th_ms_steps (τ : MS) (v : Int32) : m_thrown (ms_steps τ v) = m_thrown τ := id rfl
theorem th_ms_fault (τ : MS) (v : Int32) : m_thrown (ms_fault τ v) = m_thrown τ := id rfl
theorem th_ms_faultAt (τ : MS) (v : Int32) : m_thrown (ms_faultAt τ v) = m_thrown τ := id rfl
theorem th_ms_unit (τ : MS) (v : Int32) : m_thrown (ms_unit τ v) = m_thrown τ := id rfl
theorem th_ms_next (τ : MS) (v : Int32) : m_thrown (ms_next τ v) = m_thrown τ := id rfl
theorem th_ms_slot (τ : MS) (v : Bool) : m_thrown (ms_slot τ v) = m_thrown τ := id rfl
theorem th_ms_timer (τ : MS) (v : Bool) : m_thrown (ms_timer τ v) = m_thrown τ := id rfl
theorem th_ms_hasAddress (τ : MS) (v : Bool) : m_thrown (ms_hasAddress τ v) = m_thrown τ := id rfl
theorem th_ms_refills (τ : MS) (v : Bool) : m_thrown (ms_refills τ v) = m_thrown τ := id rfl
theorem th_ms_nextSlot (τ : MS) (v : Bool) : m_thrown (ms_nextSlot τ v) = m_thrown τ := id rfl
theorem th_ms_memory (τ : MS) (v : Nat → Int32) : m_thrown (ms_memory τ v) = m_thrown τ := id rfl
theorem th_ms_r (τ : MS) (v : Nat → Int32) : m_thrown (ms_r τ v) = m_thrown τ := id rfl
theorem th_ms_sys (τ : MS) (v : Nat → Int32) : m_thrown (ms_sys τ v) = m_thrown τ := id rfl
theorem th_ms_pages (τ : MS) (v : Nat → Int32) : m_thrown (ms_pages τ v) = m_thrown τ := id rfl
theorem th_ms_spaces (τ : MS) (v : Nat → Int32) : m_thrown (ms_spaces τ v) = m_thrown τ := id rfl
theorem th_ms_halves (τ : MS) (v : Nat → Int32) : m_thrown (ms_halves τ v) = m_thrown τ := id rfl
theorem th_ms_faults (τ : MS) (v : Nat → Int32) : m_thrown (ms_faults τ v) = m_thrown τ := id rfl
theorem th_ms_lines (τ : MS) (v : Nat → Bool) : m_thrown (ms_lines τ v) = m_thrown τ := id rfl
theorem th_ms_all (τ : MS) (v : Nat → Bool) : m_thrown (ms_all τ v) = m_thrown τ := id rfl
theorem th_MO_put_c1 (σ14 : MS) (a1 : Int32) (a2 : Int32) : m_thrown (f_MO_put_c1 σ14 a1 a2) = m_thrown σ14 := by
  unfold f_MO_put_c1
  rfl
theorem th_MO_put_14 (σ : MS) (a1 : Int32) (a2 : Int32) (w14_2 : Int32) : m_thrown (f_MO_put_14 σ a1 a2 w14_2) = m_thrown σ := by
  unfold f_MO_put_14
  first | rfl | simp only [th_MO_put_c1, th_ms_r]
theorem th_MO_put (σ : MS) (a1 : Int32) (a2 : Int32) : m_thrown (f_MO_put σ a1 a2) = m_thrown σ := by
  unfold f_MO_put
  simp only [th_ite, th_iteb, th_itei, th_itel, th_MO_put_14, ite_self]
theorem th_MO_write_c4 (σ61 : MS) (a1 : Int32) (a2 : Int32) : m_thrown (f_MO_write_c4 σ61 a1 a2) = m_thrown σ61 := by
  unfold f_MO_write_c4
  rfl
theorem th_MO_write_53 (σ53 : MS) (a1 : Int32) (a2 : Int32) : m_thrown (f_MO_write_53 σ53 a1 a2) = m_thrown σ53 := by
  unfold f_MO_write_53
  simp only [th_ite, th_iteb, th_itei, th_itel, th_MO_write_c4, th_ms_timer, ite_self]
theorem th_MO_write_c3 (σ52 : MS) (a1 : Int32) (a2 : Int32) : m_thrown (f_MO_write_c3 σ52 a1 a2) = m_thrown σ52 := by
  unfold f_MO_write_c3
  first | rfl | simp only [th_MO_write_53]
theorem th_MO_write_39 (σ39 : MS) (a1 : Int32) (a2 : Int32) : m_thrown (f_MO_write_39 σ39 a1 a2) = m_thrown σ39 := by
  unfold f_MO_write_39
  simp only [th_ite, th_iteb, th_itei, th_itel, th_MO_write_53, th_MO_write_c3, th_ms_sys, ite_self]
theorem th_MO_write_c2 (σ38 : MS) (a1 : Int32) (a2 : Int32) : m_thrown (f_MO_write_c2 σ38 a1 a2) = m_thrown σ38 := by
  unfold f_MO_write_c2
  first | rfl | simp only [th_MO_write_39]
theorem th_MO_write_c1 (σ24 : MS) (a1 : Int32) (a2 : Int32) : m_thrown (f_MO_write_c1 σ24 a1 a2) = m_thrown σ24 := by
  unfold f_MO_write_c1
  simp only [th_ite, th_iteb, th_itei, th_itel, th_MO_write_39, th_MO_write_c2, th_ms_sys, ite_self]
theorem th_MO_write (σ : MS) (a1 : Int32) (a2 : Int32) : m_thrown (f_MO_write σ a1 a2) = m_thrown σ := by
  unfold f_MO_write
  first | rfl | simp only [th_MO_write_c1, th_ms_sys]
theorem th_MO_wrong_c4 (σ17 : MS) (a1 : Int32) (a2 : Int32) : m_thrown (f_MO_wrong_c4 σ17 a1 a2).1 = m_thrown σ17 := by
  unfold f_MO_wrong_c4
  rfl
theorem th_MO_wrong_c3 (σ12 : MS) (a1 : Int32) (a2 : Int32) : m_thrown (f_MO_wrong_c3 σ12 a1 a2).1 = m_thrown σ12 := by
  unfold f_MO_wrong_c3
  first | rfl | simp only [th_MO_wrong_c4, th_ms_refills]
theorem th_MO_wrong_c2 (σ7 : MS) (a1 : Int32) (a2 : Int32) : m_thrown (f_MO_wrong_c2 σ7 a1 a2).1 = m_thrown σ7 := by
  unfold f_MO_wrong_c2
  first | rfl | simp only [th_MO_wrong_c3, th_ms_hasAddress]
theorem th_MO_wrong_c1 (σ2 : MS) (a1 : Int32) (a2 : Int32) : m_thrown (f_MO_wrong_c1 σ2 a1 a2).1 = m_thrown σ2 := by
  unfold f_MO_wrong_c1
  first | rfl | simp only [th_MO_wrong_c2, th_ms_faultAt]
theorem th_MO_wrong (σ : MS) (a1 : Int32) (a2 : Int32) : m_thrown (f_MO_wrong σ a1 a2).1 = m_thrown σ := by
  unfold f_MO_wrong
  first | rfl | simp only [th_MO_wrong_c1, th_ms_fault]
theorem th_MO_physical_c5 (z142 : MS × Bool) (a1 : Int32) (a2 : Bool) (a3 : Bool) : m_thrown (f_MO_physical_c5 z142 a1 a2 a3).1 = m_thrown z142.1 := by
  unfold f_MO_physical_c5
  rfl
theorem th_MO_physical_141 (σ : MS) (a1 : Int32) (a2 : Bool) (a3 : Bool) (w141_1 : Int32) : m_thrown (f_MO_physical_141 σ a1 a2 a3 w141_1).1 = m_thrown σ := by
  unfold f_MO_physical_141
  first | rfl | simp only [th_MO_physical_c5, th_MO_wrong]
theorem th_MO_physical_127 (σ : MS) (a1 : Int32) (a2 : Bool) (a3 : Bool) (v127_8 : Int32) (v127_4 : Int32) : m_thrown (f_MO_physical_127 σ a1 a2 a3 v127_8 v127_4).1 = m_thrown σ := by
  unfold f_MO_physical_127
  simp only [th_ite, th_iteb, th_itei, th_itel, th_MO_physical_141, ite_self]
theorem th_MO_physical_c4 (σ193 : MS) (a1 : Int32) (a2 : Bool) (a3 : Bool) : m_thrown (f_MO_physical_c4 σ193 a1 a2 a3).1 = m_thrown σ193 := by
  unfold f_MO_physical_c4
  rfl
theorem th_MO_physical_193 (σ : MS) (a1 : Int32) (a2 : Bool) (a3 : Bool) (w193_1 : Int32) : m_thrown (f_MO_physical_193 σ a1 a2 a3 w193_1).1 = m_thrown σ := by
  unfold f_MO_physical_193
  first | rfl | simp only [th_MO_physical_c4, th_ms_fault]
theorem th_MO_physical_172 (σ : MS) (a1 : Int32) (a2 : Bool) (a3 : Bool) (v172_5 : Int64) : m_thrown (f_MO_physical_172 σ a1 a2 a3 v172_5).1 = m_thrown σ := by
  unfold f_MO_physical_172
  simp only [th_ite, th_iteb, th_itei, th_itel, th_MO_physical_193, ite_self]
theorem th_MO_physical_150 (σ : MS) (a1 : Int32) (a2 : Bool) (a3 : Bool) (v150_8 : Int32) : m_thrown (f_MO_physical_150 σ a1 a2 a3 v150_8).1 = m_thrown σ := by
  unfold f_MO_physical_150
  first | rfl | simp only [th_MO_physical_172]
theorem th_MO_physical_c3 (σ84 : MS) (a1 : Int32) (a2 : Bool) (a3 : Bool) : m_thrown (f_MO_physical_c3 σ84 a1 a2 a3).1 = m_thrown σ84 := by
  unfold f_MO_physical_c3
  rfl
theorem th_MO_physical_c2 (z78 : MS × Bool) (a1 : Int32) (a2 : Bool) (a3 : Bool) : m_thrown (f_MO_physical_c2 z78 a1 a2 a3).1 = m_thrown z78.1 := by
  unfold f_MO_physical_c2
  first | rfl | simp only [th_MO_physical_c3, th_ms_refills]
theorem th_MO_physical_58 (σ : MS) (a1 : Int32) (a2 : Bool) (a3 : Bool) (v58_4 : Int32) : m_thrown (f_MO_physical_58 σ a1 a2 a3 v58_4).1 = m_thrown σ := by
  unfold f_MO_physical_58
  simp only [th_ite, th_iteb, th_itei, th_itel, th_MO_physical_127, th_MO_physical_150, th_MO_physical_c2, th_MO_wrong, ite_self]
theorem th_MO_physical_48 (σ : MS) (a1 : Int32) (a2 : Bool) (a3 : Bool) (v48_5 : Int64) (v48_4 : Int32) : m_thrown (f_MO_physical_48 σ a1 a2 a3 v48_5 v48_4).1 = m_thrown σ := by
  unfold f_MO_physical_48
  simp only [th_ite, th_iteb, th_itei, th_itel, th_MO_physical_172, th_MO_physical_58, ite_self]
theorem th_MO_physical_c1 (z40 : MS × Bool) (a1 : Int32) (a2 : Bool) (a3 : Bool) : m_thrown (f_MO_physical_c1 z40 a1 a2 a3).1 = m_thrown z40.1 := by
  unfold f_MO_physical_c1
  rfl
theorem th_MO_physical_39 (σ : MS) (a1 : Int32) (a2 : Bool) (a3 : Bool) (w39_1 : Int32) : m_thrown (f_MO_physical_39 σ a1 a2 a3 w39_1).1 = m_thrown σ := by
  unfold f_MO_physical_39
  first | rfl | simp only [th_MO_physical_c1, th_MO_wrong]
theorem th_MO_physical_9 (σ : MS) (a1 : Int32) (a2 : Bool) (a3 : Bool) (w9_0 : Int32) : m_thrown (f_MO_physical_9 σ a1 a2 a3 w9_0).1 = m_thrown σ := by
  unfold f_MO_physical_9
  simp only [th_ite, th_iteb, th_itei, th_itel, th_MO_physical_39, th_MO_physical_48, ite_self]
theorem th_MO_physical (σ : MS) (a1 : Int32) (a2 : Bool) (a3 : Bool) : m_thrown (f_MO_physical σ a1 a2 a3).1 = m_thrown σ := by
  unfold f_MO_physical
  simp only [th_ite, th_iteb, th_itei, th_itel, th_MO_physical_9, ite_self]
theorem th_MO_aligned_c2 (z19 : MS × Bool) (a1 : Int32) (a2 : Int32) (a3 : Bool) (a4 : Bool) : m_thrown (f_MO_aligned_c2 z19 a1 a2 a3 a4).1 = m_thrown z19.1 := by
  unfold f_MO_aligned_c2
  rfl
theorem th_MO_aligned_18 (σ : MS) (a1 : Int32) (a2 : Int32) (a3 : Bool) (a4 : Bool) (w18_1 : Int32) : m_thrown (f_MO_aligned_18 σ a1 a2 a3 a4 w18_1).1 = m_thrown σ := by
  unfold f_MO_aligned_18
  first | rfl | simp only [th_MO_aligned_c2, th_MO_wrong]
theorem th_MO_aligned_c1 (z32 : MS × Int64) (a1 : Int32) (a2 : Int32) (a3 : Bool) (a4 : Bool) : m_thrown (f_MO_aligned_c1 z32 a1 a2 a3 a4).1 = m_thrown z32.1 := by
  unfold f_MO_aligned_c1
  rfl
theorem th_MO_aligned (σ : MS) (a1 : Int32) (a2 : Int32) (a3 : Bool) (a4 : Bool) : m_thrown (f_MO_aligned σ a1 a2 a3 a4).1 = m_thrown σ := by
  unfold f_MO_aligned
  simp only [th_ite, th_iteb, th_itei, th_itel, th_MO_aligned_18, th_MO_aligned_c1, th_MO_physical, ite_self]
theorem th_MO_store_c1 (σ68 : MS) (a1 : Int64) (a2 : Int32) (a3 : Int32) : m_thrown (f_MO_store_c1 σ68 a1 a2 a3) = m_thrown σ68 := by
  unfold f_MO_store_c1
  rfl
theorem th_MO_store_39 (σ : MS) (a1 : Int64) (a2 : Int32) (a3 : Int32) (v39_6 : Int32) (v39_5 : Int32) (w39_0 : Int32) : m_thrown (f_MO_store_39 σ a1 a2 a3 v39_6 v39_5 w39_0) = m_thrown σ := by
  unfold f_MO_store_39
  first | rfl | simp only [th_MO_store_c1, th_ms_memory]
theorem th_MO_store (σ : MS) (a1 : Int64) (a2 : Int32) (a3 : Int32) : m_thrown (f_MO_store σ a1 a2 a3) = m_thrown σ := by
  unfold f_MO_store
  simp only [th_ite, th_iteb, th_itei, th_itel, th_MO_store_39, ite_self]
theorem th_MO_enter_c10 (σ255 : MS) : m_thrown (f_MO_enter_c10 σ255) = m_thrown σ255 := by
  unfold f_MO_enter_c10
  rfl
theorem th_MO_enter_c9 (σ242 : MS) : m_thrown (f_MO_enter_c9 σ242) = m_thrown σ242 := by
  unfold f_MO_enter_c9
  first | rfl | simp only [th_MO_enter_c10, th_ms_faults]
theorem th_MO_enter_c8 (σ224 : MS) : m_thrown (f_MO_enter_c8 σ224) = m_thrown σ224 := by
  unfold f_MO_enter_c8
  first | rfl | simp only [th_MO_enter_c9, th_ms_sys]
theorem th_MO_enter_c7 (σ219 : MS) : m_thrown (f_MO_enter_c7 σ219) = m_thrown σ219 := by
  unfold f_MO_enter_c7
  first | rfl | simp only [th_MO_enter_c8, th_ms_slot]
theorem th_MO_enter_219 (σ219 : MS) (w219_1 : Int32) : m_thrown (f_MO_enter_219 σ219 w219_1) = m_thrown σ219 := by
  unfold f_MO_enter_219
  first | rfl | simp only [th_MO_enter_c7, th_ms_pc]
theorem th_MO_enter_217 (σ217 : MS) : m_thrown (f_MO_enter_217 σ217) = m_thrown σ217 := by
  unfold f_MO_enter_217
  first | rfl | simp only [th_MO_enter_219]
theorem th_MO_enter_200 (σ200 : MS) (v200_1 : Bool) : m_thrown (f_MO_enter_200 σ200 v200_1) = m_thrown σ200 := by
  unfold f_MO_enter_200
  simp only [th_ite, th_iteb, th_itei, th_itel, th_MO_enter_217, th_MO_enter_219, ite_self]
theorem th_MO_enter_c6 (σ199 : MS) (v119_1 : Bool) : m_thrown (f_MO_enter_c6 σ199 v119_1) = m_thrown σ199 := by
  unfold f_MO_enter_c6
  first | rfl | simp only [th_MO_enter_200]
theorem th_MO_enter_c5 (σ172 : MS) (v119_1 : Bool) : m_thrown (f_MO_enter_c5 σ172 v119_1) = m_thrown σ172 := by
  unfold f_MO_enter_c5
  first | rfl | simp only [th_MO_enter_c6, th_ms_sys]
theorem th_MO_enter_c4 (σ138 : MS) (v119_1 : Bool) : m_thrown (f_MO_enter_c4 σ138 v119_1) = m_thrown σ138 := by
  unfold f_MO_enter_c4
  simp only [th_ite, th_iteb, th_itei, th_itel, th_MO_enter_200, th_MO_enter_c5, th_ms_sys, ite_self]
theorem th_MO_enter_c3 (σ120 : MS) (v119_1 : Bool) : m_thrown (f_MO_enter_c3 σ120 v119_1) = m_thrown σ120 := by
  unfold f_MO_enter_c3
  simp only [th_ite, th_iteb, th_itei, th_itel, th_MO_enter_200, th_MO_enter_c4, th_ms_sys, ite_self]
theorem th_MO_enter_119 (σ119 : MS) (v119_1 : Bool) (w119_2 : Int32) (w119_3 : Int32) : m_thrown (f_MO_enter_119 σ119 v119_1 w119_2 w119_3) = m_thrown σ119 := by
  unfold f_MO_enter_119
  first | rfl | simp only [th_MO_enter_c3, th_ms_sys]
theorem th_MO_enter_76 (σ76 : MS) (v76_1 : Bool) : m_thrown (f_MO_enter_76 σ76 v76_1) = m_thrown σ76 := by
  unfold f_MO_enter_76
  simp only [th_ite, th_iteb, th_itei, th_itel, th_MO_enter_119, ite_self]
theorem th_MO_enter_c2 (σ75 : MS) (v74_1 : Bool) : m_thrown (f_MO_enter_c2 σ75 v74_1) = m_thrown σ75 := by
  unfold f_MO_enter_c2
  first | rfl | simp only [th_MO_enter_76]
theorem th_MO_enter_74 (σ74 : MS) (v74_1 : Bool) (w74_2 : Int32) (w74_3 : Int32) : m_thrown (f_MO_enter_74 σ74 v74_1 w74_2 w74_3) = m_thrown σ74 := by
  unfold f_MO_enter_74
  first | rfl | simp only [th_MO_enter_c2, th_ms_sys]
theorem th_MO_enter_c1 (σ44 : MS) (v44_1 : Bool) : m_thrown (f_MO_enter_c1 σ44 v44_1) = m_thrown σ44 := by
  unfold f_MO_enter_c1
  simp only [th_ite, th_iteb, th_itei, th_itel, th_MO_enter_74, ite_self]
theorem th_MO_enter_44 (σ : MS) (v44_1 : Bool) (w44_2 : Int32) : m_thrown (f_MO_enter_44 σ v44_1 w44_2) = m_thrown σ := by
  unfold f_MO_enter_44
  first | rfl | simp only [th_MO_enter_c1, th_ms_sys]
theorem th_MO_enter_13 (σ : MS) (w13_0 : Bool) : m_thrown (f_MO_enter_13 σ w13_0) = m_thrown σ := by
  unfold f_MO_enter_13
  simp only [th_ite, th_iteb, th_itei, th_itel, th_MO_enter_44, th_MO_enter_76, ite_self]
theorem th_MO_enter (σ : MS) : m_thrown (f_MO_enter σ) = m_thrown σ := by
  unfold f_MO_enter
  simp only [th_ite, th_iteb, th_itei, th_itel, th_MO_enter_13, ite_self]
theorem th_MO_raise_c1 (σ2 : MS) (a1 : Int32) : m_thrown (f_MO_raise_c1 σ2 a1).1 = m_thrown σ2 := by
  unfold f_MO_raise_c1
  rfl
theorem th_MO_raise (σ : MS) (a1 : Int32) : m_thrown (f_MO_raise σ a1).1 = m_thrown σ := by
  unfold f_MO_raise
  first | rfl | simp only [th_MO_raise_c1, th_ms_fault]
theorem th_MO_other_c2 (z123 : MS × Int32) (a1 : Int32) : m_thrown (f_MO_other_c2 z123 a1) = m_thrown z123.1 := by
  unfold f_MO_other_c2
  rfl
theorem th_MO_other_123 (σ123 : MS) (a1 : Int32) (w123_1 : Int32) : m_thrown (f_MO_other_123 σ123 a1 w123_1) = m_thrown σ123 := by
  unfold f_MO_other_123
  first | rfl | simp only [th_MO_other_c2, th_MO_raise]
theorem th_MO_other_116 (σ116 : MS) (a1 : Int32) : m_thrown (f_MO_other_116 σ116 a1) = m_thrown σ116 := by
  unfold f_MO_other_116
  first | rfl | simp only [th_MO_other_123]
theorem th_MO_other_c1 (σ97 : MS) (a1 : Int32) (v97_4 : Bool) (v97_3 : Bool) : m_thrown (f_MO_other_c1 σ97 a1 v97_4 v97_3) = m_thrown σ97 := by
  unfold f_MO_other_c1
  simp only [th_ite, th_iteb, th_itei, th_itel, th_MO_other_116, th_MO_other_123, ite_self]
theorem th_MO_other_97 (σ : MS) (a1 : Int32) (v97_4 : Bool) (v97_3 : Bool) (w97_1 : Int32) : m_thrown (f_MO_other_97 σ a1 v97_4 v97_3 w97_1) = m_thrown σ := by
  unfold f_MO_other_97
  first | rfl | simp only [th_MO_other_c1, th_ms_unit]
theorem th_MO_other_76 (σ : MS) (a1 : Int32) (v76_3 : Bool) (v76_2 : Int32) (w76_0 : Bool) : m_thrown (f_MO_other_76 σ a1 v76_3 v76_2 w76_0) = m_thrown σ := by
  unfold f_MO_other_76
  simp only [th_ite, th_iteb, th_itei, th_itel, th_MO_other_97, ite_self]
theorem th_MO_other_71 (σ : MS) (a1 : Int32) (v71_3 : Bool) (v71_2 : Int32) : m_thrown (f_MO_other_71 σ a1 v71_3 v71_2) = m_thrown σ := by
  unfold f_MO_other_71
  first | rfl | simp only [th_MO_other_76]
theorem th_MO_other_40 (σ : MS) (a1 : Int32) (v40_2 : Int32) (w40_0 : Bool) : m_thrown (f_MO_other_40 σ a1 v40_2 w40_0) = m_thrown σ := by
  unfold f_MO_other_40
  simp only [th_ite, th_iteb, th_itei, th_itel, th_MO_other_71, th_MO_other_76, ite_self]
theorem th_MO_other_35 (σ : MS) (a1 : Int32) (v35_2 : Int32) : m_thrown (f_MO_other_35 σ a1 v35_2) = m_thrown σ := by
  unfold f_MO_other_35
  first | rfl | simp only [th_MO_other_40]
theorem th_MO_other (σ : MS) (a1 : Int32) : m_thrown (f_MO_other σ a1) = m_thrown σ := by
  unfold f_MO_other
  simp only [th_ite, th_iteb, th_itei, th_itel, th_MO_other_35, th_MO_other_40, ite_self]
theorem th_MO_branch_c4 (σ51 : MS) (a1 : Bool) (a2 : Int32) (a3 : Bool) : m_thrown (f_MO_branch_c4 σ51 a1 a2 a3) = m_thrown σ51 := by
  unfold f_MO_branch_c4
  rfl
theorem th_MO_branch_c3 (σ46 : MS) (a1 : Bool) (a2 : Int32) (a3 : Bool) : m_thrown (f_MO_branch_c3 σ46 a1 a2 a3) = m_thrown σ46 := by
  unfold f_MO_branch_c3
  first | rfl | simp only [th_MO_branch_c4, th_ms_nextSlot]
theorem th_MO_branch_c2 (σ36 : MS) (a1 : Bool) (a2 : Int32) (a3 : Bool) : m_thrown (f_MO_branch_c2 σ36 a1 a2 a3) = m_thrown σ36 := by
  unfold f_MO_branch_c2
  first | rfl | simp only [th_MO_branch_c3, th_ms_next]
theorem th_MO_branch_36 (σ : MS) (a1 : Bool) (a2 : Int32) (a3 : Bool) (w36_1 : Int32) : m_thrown (f_MO_branch_36 σ a1 a2 a3 w36_1) = m_thrown σ := by
  unfold f_MO_branch_36
  first | rfl | simp only [th_MO_branch_c2, th_ms_target]
theorem th_MO_branch_20 (σ : MS) (a1 : Bool) (a2 : Int32) (a3 : Bool) : m_thrown (f_MO_branch_20 σ a1 a2 a3) = m_thrown σ := by
  unfold f_MO_branch_20
  simp only [th_ite, th_iteb, th_itei, th_itel, th_MO_branch_36, ite_self]
theorem th_MO_branch_c1 (σ16 : MS) (a1 : Bool) (a2 : Int32) (a3 : Bool) : m_thrown (f_MO_branch_c1 σ16 a1 a2 a3) = m_thrown σ16 := by
  unfold f_MO_branch_c1
  rfl
theorem th_MO_branch (σ : MS) (a1 : Bool) (a2 : Int32) (a3 : Bool) : m_thrown (f_MO_branch σ a1 a2 a3) = m_thrown σ := by
  unfold f_MO_branch
  simp only [th_ite, th_iteb, th_itei, th_itel, th_MO_branch_20, th_MO_branch_c1, th_ms_next, ite_self]
theorem th_MO_shift_c2 (z52 : MS) (a1 : Int32) (a2 : Int32) (a3 : Int32) (a4 : Int32) : m_thrown (f_MO_shift_c2 z52 a1 a2 a3 a4) = m_thrown z52 := by
  unfold f_MO_shift_c2
  rfl
theorem th_MO_shift_52 (σ : MS) (a1 : Int32) (a2 : Int32) (a3 : Int32) (a4 : Int32) (w52_2 : Int32) : m_thrown (f_MO_shift_52 σ a1 a2 a3 a4 w52_2) = m_thrown σ := by
  unfold f_MO_shift_52
  first | rfl | simp only [th_MO_put, th_MO_shift_c2]
theorem th_MO_shift_c1 (z14 : MS × Int32) (a1 : Int32) (a2 : Int32) (a3 : Int32) (a4 : Int32) : m_thrown (f_MO_shift_c1 z14 a1 a2 a3 a4) = m_thrown z14.1 := by
  unfold f_MO_shift_c1
  rfl
theorem th_MO_shift (σ : MS) (a1 : Int32) (a2 : Int32) (a3 : Int32) (a4 : Int32) : m_thrown (f_MO_shift σ a1 a2 a3 a4) = m_thrown σ := by
  unfold f_MO_shift
  simp only [th_ite, th_iteb, th_itei, th_itel, th_MO_raise, th_MO_shift_52, th_MO_shift_c1, ite_self]
theorem th_MO_moves_c6 (z39 : MS) (a1 : Int32) (a2 : Int32) (a3 : Int32) (a4 : Int32) : m_thrown (f_MO_moves_c6 z39 a1 a2 a3 a4) = m_thrown z39 := by
  unfold f_MO_moves_c6
  rfl
theorem th_MO_moves_33 (σ : MS) (a1 : Int32) (a2 : Int32) (a3 : Int32) (a4 : Int32) (w33_0 : Bool) (w33_1 : Bool) : m_thrown (f_MO_moves_33 σ a1 a2 a3 a4 w33_0 w33_1) = m_thrown σ := by
  unfold f_MO_moves_33
  simp only [th_ite, th_iteb, th_itei, th_itel, th_MO_moves_c6, th_MO_put, ite_self]
theorem th_MO_moves_22 (σ : MS) (a1 : Int32) (a2 : Int32) (a3 : Int32) (a4 : Int32) (w22_0 : Bool) : m_thrown (f_MO_moves_22 σ a1 a2 a3 a4 w22_0) = m_thrown σ := by
  unfold f_MO_moves_22
  simp only [th_ite, th_iteb, th_itei, th_itel, th_MO_moves_33, ite_self]
theorem th_MO_moves_12 (σ : MS) (a1 : Int32) (a2 : Int32) (a3 : Int32) (a4 : Int32) : m_thrown (f_MO_moves_12 σ a1 a2 a3 a4) = m_thrown σ := by
  unfold f_MO_moves_12
  simp only [th_ite, th_iteb, th_itei, th_itel, th_MO_moves_22, ite_self]
theorem th_MO_moves_c5 (z71 : MS × Int32) (a1 : Int32) (a2 : Int32) (a3 : Int32) (a4 : Int32) : m_thrown (f_MO_moves_c5 z71 a1 a2 a3 a4) = m_thrown z71.1 := by
  unfold f_MO_moves_c5
  rfl
theorem th_MO_moves_71 (σ : MS) (a1 : Int32) (a2 : Int32) (a3 : Int32) (a4 : Int32) (w71_1 : Int32) : m_thrown (f_MO_moves_71 σ a1 a2 a3 a4 w71_1) = m_thrown σ := by
  unfold f_MO_moves_71
  first | rfl | simp only [th_MO_moves_c5, th_MO_raise]
theorem th_MO_moves_57 (σ : MS) (a1 : Int32) (a2 : Int32) (a3 : Int32) (a4 : Int32) : m_thrown (f_MO_moves_57 σ a1 a2 a3 a4) = m_thrown σ := by
  unfold f_MO_moves_57
  simp only [th_ite, th_iteb, th_itei, th_itel, th_MO_moves_71, ite_self]
theorem th_MO_moves_c4 (z109 : MS) (a1 : Int32) (a2 : Int32) (a3 : Int32) (a4 : Int32) : m_thrown (f_MO_moves_c4 z109 a1 a2 a3 a4) = m_thrown z109 := by
  unfold f_MO_moves_c4
  rfl
theorem th_MO_moves_109 (σ : MS) (a1 : Int32) (a2 : Int32) (a3 : Int32) (a4 : Int32) (w109_2 : Int32) : m_thrown (f_MO_moves_109 σ a1 a2 a3 a4 w109_2) = m_thrown σ := by
  unfold f_MO_moves_109
  first | rfl | simp only [th_MO_moves_c4, th_MO_put]
theorem th_MO_moves_90 (σ : MS) (a1 : Int32) (a2 : Int32) (a3 : Int32) (a4 : Int32) : m_thrown (f_MO_moves_90 σ a1 a2 a3 a4) = m_thrown σ := by
  unfold f_MO_moves_90
  simp only [th_ite, th_iteb, th_itei, th_itel, th_MO_moves_109, ite_self]
theorem th_MO_moves_c3 (σ123 : MS) (a1 : Int32) (a2 : Int32) (a3 : Int32) (a4 : Int32) : m_thrown (f_MO_moves_c3 σ123 a1 a2 a3 a4) = m_thrown σ123 := by
  unfold f_MO_moves_c3
  rfl
theorem th_MO_moves_c2 (σ137 : MS) (a1 : Int32) (a2 : Int32) (a3 : Int32) (a4 : Int32) : m_thrown (f_MO_moves_c2 σ137 a1 a2 a3 a4) = m_thrown σ137 := by
  unfold f_MO_moves_c2
  rfl
theorem th_MO_moves_c1 (z152 : MS × Int32) (a1 : Int32) (a2 : Int32) (a3 : Int32) (a4 : Int32) : m_thrown (f_MO_moves_c1 z152 a1 a2 a3 a4) = m_thrown z152.1 := by
  unfold f_MO_moves_c1
  rfl
theorem th_MO_moves (σ : MS) (a1 : Int32) (a2 : Int32) (a3 : Int32) (a4 : Int32) : m_thrown (f_MO_moves σ a1 a2 a3 a4) = m_thrown σ := by
  unfold f_MO_moves
  simp only [th_ite, th_iteb, th_itei, th_itel, th_MO_moves_12, th_MO_moves_57, th_MO_moves_90, th_MO_moves_c1, th_MO_moves_c2, th_MO_moves_c3, th_MO_raise, th_ms_hi, th_ms_lo, ite_self]
theorem th_MO_setBoth_c2 (σ12 : MS) (a1 : Int64) : m_thrown (f_MO_setBoth_c2 σ12 a1) = m_thrown σ12 := by
  unfold f_MO_setBoth_c2
  rfl
theorem th_MO_setBoth_c1 (σ6 : MS) (a1 : Int64) : m_thrown (f_MO_setBoth_c1 σ6 a1) = m_thrown σ6 := by
  unfold f_MO_setBoth_c1
  first | rfl | simp only [th_MO_setBoth_c2, th_ms_lo]
theorem th_MO_setBoth (σ : MS) (a1 : Int64) : m_thrown (f_MO_setBoth σ a1) = m_thrown σ := by
  unfold f_MO_setBoth
  first | rfl | simp only [th_MO_setBoth_c1, th_ms_hi]
theorem th_MO_divides_c3 (z47 : MS) (a1 : Int32) (a2 : Int32) (a3 : Int32) : m_thrown (f_MO_divides_c3 z47 a1 a2 a3) = m_thrown z47 := by
  unfold f_MO_divides_c3
  rfl
theorem th_MO_divides_c2 (σ77 : MS) (a1 : Int32) (a2 : Int32) (a3 : Int32) : m_thrown (f_MO_divides_c2 σ77 a1 a2 a3) = m_thrown σ77 := by
  unfold f_MO_divides_c2
  rfl
theorem th_MO_divides_c1 (σ67 : MS) (a1 : Int32) (a2 : Int32) (a3 : Int32) (u1_7 : Int64) (u1_5 : Int64) : m_thrown (f_MO_divides_c1 σ67 a1 a2 a3 u1_7 u1_5) = m_thrown σ67 := by
  unfold f_MO_divides_c1
  first | rfl | simp only [th_MO_divides_c2, th_ms_hi]
theorem th_MO_divides_17 (σ : MS) (a1 : Int32) (a2 : Int32) (a3 : Int32) (w17_0 : Bool) : m_thrown (f_MO_divides_17 σ a1 a2 a3 w17_0) = m_thrown σ := by
  unfold f_MO_divides_17
  simp only [th_ite, th_iteb, th_itei, th_itel, th_MO_divides_c1, th_MO_divides_c3, th_MO_setBoth, th_ms_lo, ite_self]
theorem th_MO_divides_12 (σ : MS) (a1 : Int32) (a2 : Int32) (a3 : Int32) : m_thrown (f_MO_divides_12 σ a1 a2 a3) = m_thrown σ := by
  unfold f_MO_divides_12
  first | rfl | simp only [th_MO_divides_17]
theorem th_MO_divides (σ : MS) (a1 : Int32) (a2 : Int32) (a3 : Int32) : m_thrown (f_MO_divides σ a1 a2 a3) = m_thrown σ := by
  unfold f_MO_divides
  simp only [th_ite, th_iteb, th_itei, th_itel, th_MO_divides_12, th_MO_divides_17, ite_self]
theorem th_MO_sums_c6 (z48 : MS × Int32) (a1 : Int32) (a2 : Int32) (a3 : Int32) (a4 : Int32) : m_thrown (f_MO_sums_c6 z48 a1 a2 a3 a4) = m_thrown z48.1 := by
  unfold f_MO_sums_c6
  rfl
theorem th_MO_sums_c5 (z60 : MS) (a1 : Int32) (a2 : Int32) (a3 : Int32) (a4 : Int32) : m_thrown (f_MO_sums_c5 z60 a1 a2 a3 a4) = m_thrown z60 := by
  unfold f_MO_sums_c5
  rfl
theorem th_MO_sums_35 (σ : MS) (a1 : Int32) (a2 : Int32) (a3 : Int32) (a4 : Int32) (v35_5 : Int64) : m_thrown (f_MO_sums_35 σ a1 a2 a3 a4 v35_5) = m_thrown σ := by
  unfold f_MO_sums_35
  simp only [th_ite, th_iteb, th_itei, th_itel, th_MO_put, th_MO_raise, th_MO_sums_c5, th_MO_sums_c6, ite_self]
theorem th_MO_sums_c4 (z97 : MS) (a1 : Int32) (a2 : Int32) (a3 : Int32) (a4 : Int32) : m_thrown (f_MO_sums_c4 z97 a1 a2 a3 a4) = m_thrown z97 := by
  unfold f_MO_sums_c4
  rfl
theorem th_MO_sums_97 (σ : MS) (a1 : Int32) (a2 : Int32) (a3 : Int32) (a4 : Int32) (w97_2 : Int32) : m_thrown (f_MO_sums_97 σ a1 a2 a3 a4 w97_2) = m_thrown σ := by
  unfold f_MO_sums_97
  first | rfl | simp only [th_MO_put, th_MO_sums_c4]
theorem th_MO_sums_78 (σ : MS) (a1 : Int32) (a2 : Int32) (a3 : Int32) (a4 : Int32) : m_thrown (f_MO_sums_78 σ a1 a2 a3 a4) = m_thrown σ := by
  unfold f_MO_sums_78
  simp only [th_ite, th_iteb, th_itei, th_itel, th_MO_sums_97, ite_self]
theorem th_MO_sums_c3 (z210 : MS) (a1 : Int32) (a2 : Int32) (a3 : Int32) (a4 : Int32) : m_thrown (f_MO_sums_c3 z210 a1 a2 a3 a4) = m_thrown z210 := by
  unfold f_MO_sums_c3
  rfl
theorem th_MO_sums_210 (σ : MS) (a1 : Int32) (a2 : Int32) (a3 : Int32) (a4 : Int32) (w210_2 : Bool) : m_thrown (f_MO_sums_210 σ a1 a2 a3 a4 w210_2) = m_thrown σ := by
  unfold f_MO_sums_210
  first | rfl | simp only [th_MO_put, th_MO_sums_c3]
theorem th_MO_sums_209 (σ : MS) (a1 : Int32) (a2 : Int32) (a3 : Int32) (a4 : Int32) : m_thrown (f_MO_sums_209 σ a1 a2 a3 a4) = m_thrown σ := by
  unfold f_MO_sums_209
  first | rfl | simp only [th_MO_sums_210]
theorem th_MO_sums_205 (σ : MS) (a1 : Int32) (a2 : Int32) (a3 : Int32) (a4 : Int32) : m_thrown (f_MO_sums_205 σ a1 a2 a3 a4) = m_thrown σ := by
  unfold f_MO_sums_205
  first | rfl | simp only [th_MO_sums_210]
theorem th_MO_sums_179 (σ : MS) (a1 : Int32) (a2 : Int32) (a3 : Int32) (a4 : Int32) : m_thrown (f_MO_sums_179 σ a1 a2 a3 a4) = m_thrown σ := by
  unfold f_MO_sums_179
  simp only [th_ite, th_iteb, th_itei, th_itel, th_MO_sums_205, th_MO_sums_209, ite_self]
theorem th_MO_sums_c2 (z161 : MS) (a1 : Int32) (a2 : Int32) (a3 : Int32) (a4 : Int32) : m_thrown (f_MO_sums_c2 z161 a1 a2 a3 a4) = m_thrown z161 := by
  unfold f_MO_sums_c2
  rfl
theorem th_MO_sums_161 (σ : MS) (a1 : Int32) (a2 : Int32) (a3 : Int32) (a4 : Int32) (w161_2 : Int32) : m_thrown (f_MO_sums_161 σ a1 a2 a3 a4 w161_2) = m_thrown σ := by
  unfold f_MO_sums_161
  first | rfl | simp only [th_MO_put, th_MO_sums_c2]
theorem th_MO_sums_c1 (z219 : MS × Int32) (a1 : Int32) (a2 : Int32) (a3 : Int32) (a4 : Int32) : m_thrown (f_MO_sums_c1 z219 a1 a2 a3 a4) = m_thrown z219.1 := by
  unfold f_MO_sums_c1
  rfl
theorem th_MO_sums_21 (σ : MS) (a1 : Int32) (a2 : Int32) (a3 : Int32) (a4 : Int32) (w21_0 : Int64) : m_thrown (f_MO_sums_21 σ a1 a2 a3 a4 w21_0) = m_thrown σ := by
  unfold f_MO_sums_21
  simp only [th_ite, th_iteb, th_itei, th_itel, th_MO_raise, th_MO_sums_161, th_MO_sums_179, th_MO_sums_35, th_MO_sums_78, th_MO_sums_c1, ite_self]
theorem th_MO_sums (σ : MS) (a1 : Int32) (a2 : Int32) (a3 : Int32) (a4 : Int32) : m_thrown (f_MO_sums σ a1 a2 a3 a4) = m_thrown σ := by
  unfold f_MO_sums
  simp only [th_ite, th_iteb, th_itei, th_itel, th_MO_sums_21, ite_self]
theorem th_MO_trap_c2 (z117 : MS × Int32) (a1 : Int32) (a2 : Int32) (a3 : Int32) : m_thrown (f_MO_trap_c2 z117 a1 a2 a3) = m_thrown z117.1 := by
  unfold f_MO_trap_c2
  rfl
theorem th_MO_trap_114 (σ : MS) (a1 : Int32) (a2 : Int32) (a3 : Int32) : m_thrown (f_MO_trap_114 σ a1 a2 a3) = m_thrown σ := by
  unfold f_MO_trap_114
  first | rfl | simp only [th_MO_raise, th_MO_trap_c2]
theorem th_MO_trap_c1 (z132 : MS × Int32) (a1 : Int32) (a2 : Int32) (a3 : Int32) : m_thrown (f_MO_trap_c1 z132 a1 a2 a3) = m_thrown z132.1 := by
  unfold f_MO_trap_c1
  rfl
theorem th_MO_trap_97 (σ : MS) (a1 : Int32) (a2 : Int32) (a3 : Int32) (w97_0 : Bool) : m_thrown (f_MO_trap_97 σ a1 a2 a3 w97_0) = m_thrown σ := by
  unfold f_MO_trap_97
  simp only [th_ite, th_iteb, th_itei, th_itel, th_MO_raise, th_MO_trap_114, th_MO_trap_c1, ite_self]
theorem th_MO_trap (σ : MS) (a1 : Int32) (a2 : Int32) (a3 : Int32) : m_thrown (f_MO_trap σ a1 a2 a3) = m_thrown σ := by
  unfold f_MO_trap
  simp only [th_ite, th_iteb, th_itei, th_itel, th_MO_trap_97, ite_self]
theorem th_MO_byRegister_c4 (z50 : MS × Int32) (a1 : Int32) (a2 : Int32) (a3 : Int32) : m_thrown (f_MO_byRegister_c4 z50 a1 a2 a3) = m_thrown z50.1 := by
  unfold f_MO_byRegister_c4
  rfl
theorem th_MO_byRegister_47 (σ : MS) (a1 : Int32) (a2 : Int32) (a3 : Int32) : m_thrown (f_MO_byRegister_47 σ a1 a2 a3) = m_thrown σ := by
  unfold f_MO_byRegister_47
  first | rfl | simp only [th_MO_byRegister_c4, th_MO_raise]
theorem th_MO_byRegister_c3 (z130 : MS) (a1 : Int32) (a2 : Int32) (a3 : Int32) : m_thrown (f_MO_byRegister_c3 z130 a1 a2 a3) = m_thrown z130 := by
  unfold f_MO_byRegister_c3
  rfl
theorem th_MO_byRegister_130 (σ130 : MS) (a1 : Int32) (a2 : Int32) (a3 : Int32) (w130_1 : Bool) (w130_2 : Int32) (w130_3 : Bool) : m_thrown (f_MO_byRegister_130 σ130 a1 a2 a3 w130_1 w130_2 w130_3) = m_thrown σ130 := by
  unfold f_MO_byRegister_130
  first | rfl | simp only [th_MO_branch, th_MO_byRegister_c3]
theorem th_MO_byRegister_105 (σ105 : MS) (a1 : Int32) (a2 : Int32) (a3 : Int32) (v105_4 : Bool) : m_thrown (f_MO_byRegister_105 σ105 a1 a2 a3 v105_4) = m_thrown σ105 := by
  unfold f_MO_byRegister_105
  simp only [th_ite, th_iteb, th_itei, th_itel, th_MO_byRegister_130, ite_self]
theorem th_MO_byRegister_c2 (z102 : MS) (a1 : Int32) (a2 : Int32) (a3 : Int32) (w84_0 : Bool) : m_thrown (f_MO_byRegister_c2 z102 a1 a2 a3 w84_0) = m_thrown z102 := by
  unfold f_MO_byRegister_c2
  first | rfl | simp only [th_MO_byRegister_105]
theorem th_MO_byRegister_84 (σ : MS) (a1 : Int32) (a2 : Int32) (a3 : Int32) (w84_0 : Bool) : m_thrown (f_MO_byRegister_84 σ a1 a2 a3 w84_0) = m_thrown σ := by
  unfold f_MO_byRegister_84
  simp only [th_ite, th_iteb, th_itei, th_itel, th_MO_byRegister_105, th_MO_byRegister_c2, th_MO_put, ite_self]
theorem th_MO_byRegister_c1 (z18 : MS) (a1 : Int32) (a2 : Int32) (a3 : Int32) : m_thrown (f_MO_byRegister_c1 z18 a1 a2 a3) = m_thrown z18 := by
  unfold f_MO_byRegister_c1
  rfl
theorem th_MO_byRegister (σ : MS) (a1 : Int32) (a2 : Int32) (a3 : Int32) : m_thrown (f_MO_byRegister σ a1 a2 a3) = m_thrown σ := by
  unfold f_MO_byRegister
  simp only [th_ite, th_iteb, th_itei, th_itel, th_MO_byRegister_47, th_MO_byRegister_84, th_MO_byRegister_c1, th_MO_trap, ite_self]
theorem th_MO_branches_c4 (z159 : MS) (a1 : Int32) (a2 : Int32) (a3 : Int32) (a4 : Int32) (a5 : Int32) : m_thrown (f_MO_branches_c4 z159 a1 a2 a3 a4 a5) = m_thrown z159 := by
  unfold f_MO_branches_c4
  rfl
theorem th_MO_branches_159 (σ : MS) (a1 : Int32) (a2 : Int32) (a3 : Int32) (a4 : Int32) (a5 : Int32) (w159_1 : Bool) (w159_2 : Int32) (w159_3 : Bool) : m_thrown (f_MO_branches_159 σ a1 a2 a3 a4 a5 w159_1 w159_2 w159_3) = m_thrown σ := by
  unfold f_MO_branches_159
  first | rfl | simp only [th_MO_branch, th_MO_branches_c4]
theorem th_MO_branches_132 (σ : MS) (a1 : Int32) (a2 : Int32) (a3 : Int32) (a4 : Int32) (a5 : Int32) (w132_0 : Bool) : m_thrown (f_MO_branches_132 σ a1 a2 a3 a4 a5 w132_0) = m_thrown σ := by
  unfold f_MO_branches_132
  simp only [th_ite, th_iteb, th_itei, th_itel, th_MO_branches_159, ite_self]
theorem th_MO_branches_c3 (z57 : MS) (a1 : Int32) (a2 : Int32) (a3 : Int32) (a4 : Int32) (a5 : Int32) : m_thrown (f_MO_branches_c3 z57 a1 a2 a3 a4 a5) = m_thrown z57 := by
  unfold f_MO_branches_c3
  rfl
theorem th_MO_branches_38 (σ38 : MS) (a1 : Int32) (a2 : Int32) (a3 : Int32) (a4 : Int32) (a5 : Int32) : m_thrown (f_MO_branches_38 σ38 a1 a2 a3 a4 a5) = m_thrown σ38 := by
  unfold f_MO_branches_38
  first | rfl | simp only [th_MO_branch, th_MO_branches_c3]
theorem th_MO_branches_c2 (z10 : MS × Int32) (a1 : Int32) (a2 : Int32) (a3 : Int32) (a4 : Int32) (a5 : Int32) : m_thrown (f_MO_branches_c2 z10 a1 a2 a3 a4 a5) = m_thrown z10.1 := by
  unfold f_MO_branches_c2
  rfl
theorem th_MO_branches_c1 (z35 : MS) (a1 : Int32) (a2 : Int32) (a3 : Int32) (a4 : Int32) (a5 : Int32) : m_thrown (f_MO_branches_c1 z35 a1 a2 a3 a4 a5) = m_thrown z35 := by
  unfold f_MO_branches_c1
  first | rfl | simp only [th_MO_branches_38]
theorem th_MO_branches (σ : MS) (a1 : Int32) (a2 : Int32) (a3 : Int32) (a4 : Int32) (a5 : Int32) : m_thrown (f_MO_branches σ a1 a2 a3 a4 a5) = m_thrown σ := by
  unfold f_MO_branches
  simp only [th_ite, th_iteb, th_itei, th_itel, th_MO_branches_132, th_MO_branches_38, th_MO_branches_c1, th_MO_branches_c2, th_MO_put, th_MO_raise, ite_self]
theorem th_MO_immediate_c2 (z145 : MS) (a1 : Int32) (a2 : Int32) (a3 : Int32) (a4 : Int32) : m_thrown (f_MO_immediate_c2 z145 a1 a2 a3 a4) = m_thrown z145 := by
  unfold f_MO_immediate_c2
  rfl
theorem th_MO_immediate_139 (σ : MS) (a1 : Int32) (a2 : Int32) (a3 : Int32) (a4 : Int32) (w139_0 : Int32) : m_thrown (f_MO_immediate_139 σ a1 a2 a3 a4 w139_0) = m_thrown σ := by
  unfold f_MO_immediate_139
  first | rfl | simp only [th_MO_immediate_c2, th_MO_put]
theorem th_MO_immediate_39 (σ : MS) (a1 : Int32) (a2 : Int32) (a3 : Int32) (a4 : Int32) (v39_5 : Int32) : m_thrown (f_MO_immediate_39 σ a1 a2 a3 a4 v39_5) = m_thrown σ := by
  unfold f_MO_immediate_39
  simp only [th_ite, th_iteb, th_itei, th_itel, th_MO_immediate_139, ite_self]
theorem th_MO_immediate_c1 (z34 : MS × Int32) (a1 : Int32) (a2 : Int32) (a3 : Int32) (a4 : Int32) : m_thrown (f_MO_immediate_c1 z34 a1 a2 a3 a4) = m_thrown z34.1 := by
  unfold f_MO_immediate_c1
  rfl
theorem th_MO_immediate (σ : MS) (a1 : Int32) (a2 : Int32) (a3 : Int32) (a4 : Int32) : m_thrown (f_MO_immediate σ a1 a2 a3 a4) = m_thrown σ := by
  unfold f_MO_immediate
  simp only [th_ite, th_iteb, th_itei, th_itel, th_MO_immediate_39, th_MO_immediate_c1, th_MO_raise, ite_self]
theorem th_MO_multiplies_c5 (z104 : MS) (a1 : Int32) (a2 : Int32) (a3 : Int32) : m_thrown (f_MO_multiplies_c5 z104 a1 a2 a3) = m_thrown z104 := by
  unfold f_MO_multiplies_c5
  rfl
theorem th_MO_multiplies_98 (σ : MS) (a1 : Int32) (a2 : Int32) (a3 : Int32) (v98_9 : Int64) (v98_6 : Int64) : m_thrown (f_MO_multiplies_98 σ a1 a2 a3 v98_9 v98_6) = m_thrown σ := by
  unfold f_MO_multiplies_98
  first | rfl | simp only [th_MO_multiplies_c5, th_MO_setBoth]
theorem th_MO_multiplies_c4 (z162 : MS) (a1 : Int32) (a2 : Int32) (a3 : Int32) : m_thrown (f_MO_multiplies_c4 z162 a1 a2 a3) = m_thrown z162 := by
  unfold f_MO_multiplies_c4
  rfl
theorem th_MO_multiplies_159 (σ : MS) (a1 : Int32) (a2 : Int32) (a3 : Int32) (w159_1 : Int32) (w159_2 : Int32) : m_thrown (f_MO_multiplies_159 σ a1 a2 a3 w159_1 w159_2) = m_thrown σ := by
  unfold f_MO_multiplies_159
  first | rfl | simp only [th_MO_multiplies_c4, th_MO_put]
theorem th_MO_multiplies_142 (σ : MS) (a1 : Int32) (a2 : Int32) (a3 : Int32) (v142_5 : Int32) (v142_4 : Int32) : m_thrown (f_MO_multiplies_142 σ a1 a2 a3 v142_5 v142_4) = m_thrown σ := by
  unfold f_MO_multiplies_142
  simp only [th_ite, th_iteb, th_itei, th_itel, th_MO_multiplies_159, ite_self]
theorem th_MO_multiplies_c3 (z80 : MS) (a1 : Int32) (a2 : Int32) (a3 : Int32) : m_thrown (f_MO_multiplies_c3 z80 a1 a2 a3) = m_thrown z80 := by
  unfold f_MO_multiplies_c3
  rfl
theorem th_MO_multiplies_c2 (z122 : MS) (a1 : Int32) (a2 : Int32) (a3 : Int32) : m_thrown (f_MO_multiplies_c2 z122 a1 a2 a3) = m_thrown z122 := by
  unfold f_MO_multiplies_c2
  rfl
theorem th_MO_multiplies_c1 (z171 : MS × Int32) (a1 : Int32) (a2 : Int32) (a3 : Int32) : m_thrown (f_MO_multiplies_c1 z171 a1 a2 a3) = m_thrown z171.1 := by
  unfold f_MO_multiplies_c1
  rfl
theorem th_MO_multiplies_51 (σ : MS) (a1 : Int32) (a2 : Int32) (a3 : Int32) (v51_6 : Int64) (v51_5 : Int32) (v51_4 : Int32) (w51_0 : Bool) : m_thrown (f_MO_multiplies_51 σ a1 a2 a3 v51_6 v51_5 v51_4 w51_0) = m_thrown σ := by
  unfold f_MO_multiplies_51
  simp only [th_ite, th_iteb, th_itei, th_itel, th_MO_multiplies_142, th_MO_multiplies_98, th_MO_multiplies_c1, th_MO_multiplies_c2, th_MO_multiplies_c3, th_MO_put, th_MO_raise, th_MO_setBoth, ite_self]
theorem th_MO_multiplies_46 (σ : MS) (a1 : Int32) (a2 : Int32) (a3 : Int32) (v46_6 : Int64) (v46_5 : Int32) (v46_4 : Int32) : m_thrown (f_MO_multiplies_46 σ a1 a2 a3 v46_6 v46_5 v46_4) = m_thrown σ := by
  unfold f_MO_multiplies_46
  first | rfl | simp only [th_MO_multiplies_51]
theorem th_MO_multiplies (σ : MS) (a1 : Int32) (a2 : Int32) (a3 : Int32) : m_thrown (f_MO_multiplies σ a1 a2 a3) = m_thrown σ := by
  unfold f_MO_multiplies
  simp only [th_ite, th_iteb, th_itei, th_itel, th_MO_multiplies_46, th_MO_multiplies_51, ite_self]
theorem th_MO_special_c8 (z79 : MS) (a1 : Int32) (a2 : Int32) (a3 : Int32) : m_thrown (f_MO_special_c8 z79 a1 a2 a3) = m_thrown z79 := by
  unfold f_MO_special_c8
  rfl
theorem th_MO_special_75 (σ75 : MS) (a1 : Int32) (a2 : Int32) (a3 : Int32) : m_thrown (f_MO_special_75 σ75 a1 a2 a3) = m_thrown σ75 := by
  unfold f_MO_special_75
  first | rfl | simp only [th_MO_branch, th_MO_special_c8]
theorem th_MO_special_c7 (z48 : MS × Int32) (a1 : Int32) (a2 : Int32) (a3 : Int32) : m_thrown (f_MO_special_c7 z48 a1 a2 a3) = m_thrown z48.1 := by
  unfold f_MO_special_c7
  rfl
theorem th_MO_special_c6 (z72 : MS) (a1 : Int32) (a2 : Int32) (a3 : Int32) : m_thrown (f_MO_special_c6 z72 a1 a2 a3) = m_thrown z72 := by
  unfold f_MO_special_c6
  first | rfl | simp only [th_MO_special_75]
theorem th_MO_special_38 (σ : MS) (a1 : Int32) (a2 : Int32) (a3 : Int32) (v38_5 : Int32) (v38_4 : Int32) : m_thrown (f_MO_special_38 σ a1 a2 a3 v38_5 v38_4) = m_thrown σ := by
  unfold f_MO_special_38
  simp only [th_ite, th_iteb, th_itei, th_itel, th_MO_put, th_MO_raise, th_MO_special_75, th_MO_special_c6, th_MO_special_c7, ite_self]
theorem th_MO_special_c5 (z235 : MS) (a1 : Int32) (a2 : Int32) (a3 : Int32) : m_thrown (f_MO_special_c5 z235 a1 a2 a3) = m_thrown z235 := by
  unfold f_MO_special_c5
  rfl
theorem th_MO_special_233 (σ : MS) (a1 : Int32) (a2 : Int32) (a3 : Int32) (w233_1 : Int32) : m_thrown (f_MO_special_233 σ a1 a2 a3 w233_1) = m_thrown σ := by
  unfold f_MO_special_233
  first | rfl | simp only [th_MO_special_c5, th_MO_trap]
theorem th_MO_special_c4 (z113 : MS) (a1 : Int32) (a2 : Int32) (a3 : Int32) : m_thrown (f_MO_special_c4 z113 a1 a2 a3) = m_thrown z113 := by
  unfold f_MO_special_c4
  rfl
theorem th_MO_special_112 (σ : MS) (a1 : Int32) (a2 : Int32) (a3 : Int32) (w112_1 : Int32) (w112_2 : Int32) (w112_3 : Int32) : m_thrown (f_MO_special_112 σ a1 a2 a3 w112_1 w112_2 w112_3) = m_thrown σ := by
  unfold f_MO_special_112
  first | rfl | simp only [th_MO_shift, th_MO_special_c4]
theorem th_MO_special_c3 (z133 : MS) (a1 : Int32) (a2 : Int32) (a3 : Int32) : m_thrown (f_MO_special_c3 z133 a1 a2 a3) = m_thrown z133 := by
  unfold f_MO_special_c3
  rfl
theorem th_MO_special_c2 (z151 : MS) (a1 : Int32) (a2 : Int32) (a3 : Int32) : m_thrown (f_MO_special_c2 z151 a1 a2 a3) = m_thrown z151 := by
  unfold f_MO_special_c2
  rfl
theorem th_MO_special_c1 (z248 : MS) (a1 : Int32) (a2 : Int32) (a3 : Int32) : m_thrown (f_MO_special_c1 z248 a1 a2 a3) = m_thrown z248 := by
  unfold f_MO_special_c1
  rfl
theorem th_MO_special (σ : MS) (a1 : Int32) (a2 : Int32) (a3 : Int32) : m_thrown (f_MO_special σ a1 a2 a3) = m_thrown σ := by
  unfold f_MO_special
  simp only [th_ite, th_iteb, th_itei, th_itel, th_MO_divides, th_MO_moves, th_MO_special_112, th_MO_special_233, th_MO_special_38, th_MO_special_c1, th_MO_special_c2, th_MO_special_c3, th_MO_sums, ite_self]
theorem th_MO_setEntry_c5 (σ99 : MS) (a1 : Int32) : m_thrown (f_MO_setEntry_c5 σ99 a1) = m_thrown σ99 := by
  unfold f_MO_setEntry_c5
  rfl
theorem th_MO_setEntry_c4 (σ80 : MS) (a1 : Int32) : m_thrown (f_MO_setEntry_c4 σ80 a1) = m_thrown σ80 := by
  unfold f_MO_setEntry_c4
  first | rfl | simp only [th_MO_setEntry_c5, th_ms_halves]
theorem th_MO_setEntry_c3 (σ63 : MS) (a1 : Int32) : m_thrown (f_MO_setEntry_c3 σ63 a1) = m_thrown σ63 := by
  unfold f_MO_setEntry_c3
  first | rfl | simp only [th_MO_setEntry_c4, th_ms_halves]
theorem th_MO_setEntry_63 (σ63 : MS) (a1 : Int32) (w63_2 : Bool) : m_thrown (f_MO_setEntry_63 σ63 a1 w63_2) = m_thrown σ63 := by
  unfold f_MO_setEntry_63
  first | rfl | simp only [th_MO_setEntry_c3, th_ms_all]
theorem th_MO_setEntry_c2 (σ33 : MS) (a1 : Int32) : m_thrown (f_MO_setEntry_c2 σ33 a1) = m_thrown σ33 := by
  unfold f_MO_setEntry_c2
  simp only [th_ite, th_iteb, th_itei, th_itel, th_MO_setEntry_63, ite_self]
theorem th_MO_setEntry_c1 (σ16 : MS) (a1 : Int32) : m_thrown (f_MO_setEntry_c1 σ16 a1) = m_thrown σ16 := by
  unfold f_MO_setEntry_c1
  first | rfl | simp only [th_MO_setEntry_c2, th_ms_spaces]
theorem th_MO_setEntry (σ : MS) (a1 : Int32) : m_thrown (f_MO_setEntry σ a1) = m_thrown σ := by
  unfold f_MO_setEntry
  first | rfl | simp only [th_MO_setEntry_c1, th_ms_pages]
theorem th_MO_tables_c10 (z201 : MS × Int32) (a1 : Int32) : m_thrown (f_MO_tables_c10 z201 a1) = m_thrown z201.1 := by
  unfold f_MO_tables_c10
  rfl
theorem th_MO_tables_198 (σ : MS) (a1 : Int32) : m_thrown (f_MO_tables_198 σ a1) = m_thrown σ := by
  unfold f_MO_tables_198
  first | rfl | simp only [th_MO_raise, th_MO_tables_c10]
theorem th_MO_tables_c9 (σ244 : MS) (a1 : Int32) : m_thrown (f_MO_tables_c9 σ244 a1) = m_thrown σ244 := by
  unfold f_MO_tables_c9
  rfl
theorem th_MO_tables_c8 (σ241 : MS) (a1 : Int32) : m_thrown (f_MO_tables_c8 σ241 a1) = m_thrown σ241 := by
  unfold f_MO_tables_c8
  first | rfl | simp only [th_MO_tables_c9, th_ms_link]
theorem th_MO_tables_c7 (σ222 : MS) (a1 : Int32) : m_thrown (f_MO_tables_c7 σ222 a1) = m_thrown σ222 := by
  unfold f_MO_tables_c7
  first | rfl | simp only [th_MO_tables_c8, th_ms_sys]
theorem th_MO_tables_191 (σ : MS) (a1 : Int32) : m_thrown (f_MO_tables_191 σ a1) = m_thrown σ := by
  unfold f_MO_tables_191
  simp only [th_ite, th_iteb, th_itei, th_itel, th_MO_tables_198, th_MO_tables_c7, th_ms_next, ite_self]
theorem th_MO_tables_c6 (σ175 : MS) (a1 : Int32) : m_thrown (f_MO_tables_c6 σ175 a1) = m_thrown σ175 := by
  unfold f_MO_tables_c6
  rfl
theorem th_MO_tables_175 (σ : MS) (a1 : Int32) (w175_2 : Int32) : m_thrown (f_MO_tables_175 σ a1 w175_2) = m_thrown σ := by
  unfold f_MO_tables_175
  first | rfl | simp only [th_MO_tables_c6, th_ms_sys]
theorem th_MO_tables_c5 (σ94 : MS) (a1 : Int32) : m_thrown (f_MO_tables_c5 σ94 a1) = m_thrown σ94 := by
  unfold f_MO_tables_c5
  rfl
theorem th_MO_tables_93 (σ93 : MS) (a1 : Int32) (w93_2 : Int32) (w93_3 : Bool) : m_thrown (f_MO_tables_93 σ93 a1 w93_2 w93_3) = m_thrown σ93 := by
  unfold f_MO_tables_93
  first | rfl | simp only [th_MO_tables_c5, th_ms_sys]
theorem th_MO_tables_c4 (σ63 : MS) (a1 : Int32) (v62_2 : Int32) : m_thrown (f_MO_tables_c4 σ63 a1 v62_2) = m_thrown σ63 := by
  unfold f_MO_tables_c4
  simp only [th_ite, th_iteb, th_itei, th_itel, th_MO_tables_93, ite_self]
theorem th_MO_tables_62 (σ62 : MS) (a1 : Int32) (v62_2 : Int32) (w62_2 : Int32) (w62_3 : Bool) : m_thrown (f_MO_tables_62 σ62 a1 v62_2 w62_2 w62_3) = m_thrown σ62 := by
  unfold f_MO_tables_62
  first | rfl | simp only [th_MO_tables_c4, th_ms_sys]
theorem th_MO_tables_c3 (σ34 : MS) (a1 : Int32) (u3_2 : Int32) : m_thrown (f_MO_tables_c3 σ34 a1 u3_2) = m_thrown σ34 := by
  unfold f_MO_tables_c3
  simp only [th_ite, th_iteb, th_itei, th_itel, th_MO_tables_62, ite_self]
theorem th_MO_tables_c2 (z113 : MS) (a1 : Int32) : m_thrown (f_MO_tables_c2 z113 a1) = m_thrown z113 := by
  unfold f_MO_tables_c2
  rfl
theorem th_MO_tables_c1 (z132 : MS) (a1 : Int32) : m_thrown (f_MO_tables_c1 z132 a1) = m_thrown z132 := by
  unfold f_MO_tables_c1
  rfl
theorem th_MO_tables (σ : MS) (a1 : Int32) : m_thrown (f_MO_tables σ a1) = m_thrown σ := by
  unfold f_MO_tables
  simp only [th_ite, th_iteb, th_itei, th_itel, th_MO_setEntry, th_MO_tables_175, th_MO_tables_191, th_MO_tables_198, th_MO_tables_c1, th_MO_tables_c2, th_MO_tables_c3, th_ms_sys, ite_self]
theorem th_MO_system_c5 (z53 : MS) (a1 : Int32) (a2 : Int32) (a3 : Int32) (a4 : Int32) : m_thrown (f_MO_system_c5 z53 a1 a2 a3 a4) = m_thrown z53 := by
  unfold f_MO_system_c5
  rfl
theorem th_MO_system_c4 (z74 : MS) (a1 : Int32) (a2 : Int32) (a3 : Int32) (a4 : Int32) : m_thrown (f_MO_system_c4 z74 a1 a2 a3 a4) = m_thrown z74 := by
  unfold f_MO_system_c4
  rfl
theorem th_MO_system_c3 (z89 : MS × Int32) (a1 : Int32) (a2 : Int32) (a3 : Int32) (a4 : Int32) : m_thrown (f_MO_system_c3 z89 a1 a2 a3 a4) = m_thrown z89.1 := by
  unfold f_MO_system_c3
  rfl
theorem th_MO_system_c2 (z101 : MS) (a1 : Int32) (a2 : Int32) (a3 : Int32) (a4 : Int32) : m_thrown (f_MO_system_c2 z101 a1 a2 a3 a4) = m_thrown z101 := by
  unfold f_MO_system_c2
  rfl
theorem th_MO_system_24 (σ : MS) (a1 : Int32) (a2 : Int32) (a3 : Int32) (a4 : Int32) : m_thrown (f_MO_system_24 σ a1 a2 a3 a4) = m_thrown σ := by
  unfold f_MO_system_24
  simp only [th_ite, th_iteb, th_itei, th_itel, th_MO_put, th_MO_raise, th_MO_system_c2, th_MO_system_c3, th_MO_system_c4, th_MO_system_c5, th_MO_tables, th_MO_write, ite_self]
theorem th_MO_system_c1 (z19 : MS × Int32) (a1 : Int32) (a2 : Int32) (a3 : Int32) (a4 : Int32) : m_thrown (f_MO_system_c1 z19 a1 a2 a3 a4) = m_thrown z19.1 := by
  unfold f_MO_system_c1
  rfl
theorem th_MO_system (σ : MS) (a1 : Int32) (a2 : Int32) (a3 : Int32) (a4 : Int32) : m_thrown (f_MO_system σ a1 a2 a3 a4) = m_thrown σ := by
  unfold f_MO_system
  simp only [th_ite, th_iteb, th_itei, th_itel, th_MO_raise, th_MO_system_24, th_MO_system_c1, ite_self]
theorem th_MO_load_c2 (σ56 : MS) (a1 : Int32) (a2 : Int32) (a3 : Int32) (a4 : Int64) : m_thrown (f_MO_load_c2 σ56 a1 a2 a3 a4) = m_thrown σ56 := by
  unfold f_MO_load_c2
  rfl
theorem th_MO_load_c1 (z45 : MS) (a1 : Int32) (a2 : Int32) (a3 : Int32) (a4 : Int64) : m_thrown (f_MO_load_c1 z45 a1 a2 a3 a4) = m_thrown z45 := by
  unfold f_MO_load_c1
  simp only [th_ite, th_iteb, th_itei, th_itel, th_MO_load_c2, th_ms_link, ite_self]
theorem th_MO_load_41 (σ : MS) (a1 : Int32) (a2 : Int32) (a3 : Int32) (a4 : Int64) (v41_6 : Int32) : m_thrown (f_MO_load_41 σ a1 a2 a3 a4 v41_6) = m_thrown σ := by
  unfold f_MO_load_41
  first | rfl | simp only [th_MO_load_c1, th_MO_put]
theorem th_MO_load_25 (σ : MS) (a1 : Int32) (a2 : Int32) (a3 : Int32) (a4 : Int64) (v25_6 : Int32) : m_thrown (f_MO_load_25 σ a1 a2 a3 a4 v25_6) = m_thrown σ := by
  unfold f_MO_load_25
  simp only [th_ite, th_iteb, th_itei, th_itel, th_MO_load_41, ite_self]
theorem th_MO_load (σ : MS) (a1 : Int32) (a2 : Int32) (a3 : Int32) (a4 : Int64) : m_thrown (f_MO_load σ a1 a2 a3 a4) = m_thrown σ := by
  unfold f_MO_load
  simp only [th_ite, th_iteb, th_itei, th_itel, th_MO_load_25, ite_self]
theorem th_MO_keep_c3 (σ44 : MS) (a1 : Int32) (a2 : Int32) (a3 : Int32) (a4 : Int64) : m_thrown (f_MO_keep_c3 σ44 a1 a2 a3 a4) = m_thrown σ44 := by
  unfold f_MO_keep_c3
  rfl
theorem th_MO_keep_c2 (z39 : MS) (a1 : Int32) (a2 : Int32) (a3 : Int32) (a4 : Int64) : m_thrown (f_MO_keep_c2 z39 a1 a2 a3 a4) = m_thrown z39 := by
  unfold f_MO_keep_c2
  first | rfl | simp only [th_MO_keep_c3, th_ms_link]
theorem th_MO_keep_27 (σ27 : MS) (a1 : Int32) (a2 : Int32) (a3 : Int32) (a4 : Int64) : m_thrown (f_MO_keep_27 σ27 a1 a2 a3 a4) = m_thrown σ27 := by
  unfold f_MO_keep_27
  simp only [th_ite, th_iteb, th_itei, th_itel, th_MO_keep_c2, th_MO_put, ite_self]
theorem th_MO_keep_c1 (z24 : MS) (a1 : Int32) (a2 : Int32) (a3 : Int32) (a4 : Int64) : m_thrown (f_MO_keep_c1 z24 a1 a2 a3 a4) = m_thrown z24 := by
  unfold f_MO_keep_c1
  first | rfl | simp only [th_MO_keep_27]
theorem th_MO_keep_14 (σ : MS) (a1 : Int32) (a2 : Int32) (a3 : Int32) (a4 : Int64) : m_thrown (f_MO_keep_14 σ a1 a2 a3 a4) = m_thrown σ := by
  unfold f_MO_keep_14
  first | rfl | simp only [th_MO_keep_c1, th_MO_store]
theorem th_MO_keep (σ : MS) (a1 : Int32) (a2 : Int32) (a3 : Int32) (a4 : Int64) : m_thrown (f_MO_keep σ a1 a2 a3 a4) = m_thrown σ := by
  unfold f_MO_keep
  simp only [th_ite, th_iteb, th_itei, th_itel, th_MO_keep_14, th_MO_keep_27, ite_self]
theorem th_MO_partly_c2 (z191 : MS) (a1 : Int32) (a2 : Int32) (a3 : Int64) : m_thrown (f_MO_partly_c2 z191 a1 a2 a3) = m_thrown z191 := by
  unfold f_MO_partly_c2
  rfl
theorem th_MO_partly_191 (σ : MS) (a1 : Int32) (a2 : Int32) (a3 : Int64) (w191_2 : Int32) : m_thrown (f_MO_partly_191 σ a1 a2 a3 w191_2) = m_thrown σ := by
  unfold f_MO_partly_191
  first | rfl | simp only [th_MO_partly_c2, th_MO_put]
theorem th_MO_partly_c1 (z126 : MS) (a1 : Int32) (a2 : Int32) (a3 : Int64) : m_thrown (f_MO_partly_c1 z126 a1 a2 a3) = m_thrown z126 := by
  unfold f_MO_partly_c1
  rfl
theorem th_MO_partly_126 (σ : MS) (a1 : Int32) (a2 : Int32) (a3 : Int64) (w126_1 : Int64) (w126_2 : Int32) (w126_3 : Int32) : m_thrown (f_MO_partly_126 σ a1 a2 a3 w126_1 w126_2 w126_3) = m_thrown σ := by
  unfold f_MO_partly_126
  first | rfl | simp only [th_MO_partly_c1, th_MO_store]
theorem th_MO_partly_87 (σ : MS) (a1 : Int32) (a2 : Int32) (a3 : Int64) (v87_10 : Int32) (v87_8 : Int64) (v87_7 : Int32) (v87_6 : Bool) (w87_0 : Int32) : m_thrown (f_MO_partly_87 σ a1 a2 a3 v87_10 v87_8 v87_7 v87_6 w87_0) = m_thrown σ := by
  unfold f_MO_partly_87
  simp only [th_ite, th_iteb, th_itei, th_itel, th_MO_partly_126, th_MO_partly_191, ite_self]
theorem th_MO_partly_57 (σ : MS) (a1 : Int32) (a2 : Int32) (a3 : Int64) (v57_7 : Int32) (v57_6 : Bool) (w57_0 : Int64) : m_thrown (f_MO_partly_57 σ a1 a2 a3 v57_7 v57_6 w57_0) = m_thrown σ := by
  unfold f_MO_partly_57
  simp only [th_ite, th_iteb, th_itei, th_itel, th_MO_partly_87, ite_self]
theorem th_MO_partly_41 (σ : MS) (a1 : Int32) (a2 : Int32) (a3 : Int64) (v41_6 : Bool) (v41_5 : Int32) (w41_0 : Int32) : m_thrown (f_MO_partly_41 σ a1 a2 a3 v41_6 v41_5 w41_0) = m_thrown σ := by
  unfold f_MO_partly_41
  simp only [th_ite, th_iteb, th_itei, th_itel, th_MO_partly_57, ite_self]
theorem th_MO_partly_23 (σ : MS) (a1 : Int32) (a2 : Int32) (a3 : Int64) (v23_5 : Int32) (w23_0 : Bool) : m_thrown (f_MO_partly_23 σ a1 a2 a3 v23_5 w23_0) = m_thrown σ := by
  unfold f_MO_partly_23
  simp only [th_ite, th_iteb, th_itei, th_itel, th_MO_partly_41, ite_self]
theorem th_MO_partly_18 (σ : MS) (a1 : Int32) (a2 : Int32) (a3 : Int64) (v18_5 : Int32) : m_thrown (f_MO_partly_18 σ a1 a2 a3 v18_5) = m_thrown σ := by
  unfold f_MO_partly_18
  first | rfl | simp only [th_MO_partly_23]
theorem th_MO_partly (σ : MS) (a1 : Int32) (a2 : Int32) (a3 : Int64) : m_thrown (f_MO_partly σ a1 a2 a3) = m_thrown σ := by
  unfold f_MO_partly
  simp only [th_ite, th_iteb, th_itei, th_itel, th_MO_partly_18, th_MO_partly_23, ite_self]
theorem th_MO_memories_c5 (z191 : MS) (a1 : Int32) (a2 : Int32) (a3 : Int32) : m_thrown (f_MO_memories_c5 z191 a1 a2 a3) = m_thrown z191 := by
  unfold f_MO_memories_c5
  rfl
theorem th_MO_memories_c4 (z209 : MS) (a1 : Int32) (a2 : Int32) (a3 : Int32) : m_thrown (f_MO_memories_c4 z209 a1 a2 a3) = m_thrown z209 := by
  unfold f_MO_memories_c4
  rfl
theorem th_MO_memories_c3 (z222 : MS) (a1 : Int32) (a2 : Int32) (a3 : Int32) : m_thrown (f_MO_memories_c3 z222 a1 a2 a3) = m_thrown z222 := by
  unfold f_MO_memories_c3
  rfl
theorem th_MO_memories_c2 (z168 : MS × Int64) (a1 : Int32) (a2 : Int32) (a3 : Int32) (w159_0 : Int32) (v159_5 : Bool) (v159_4 : Bool) : m_thrown (f_MO_memories_c2 z168 a1 a2 a3 w159_0 v159_5 v159_4) = m_thrown z168.1 := by
  unfold f_MO_memories_c2
  simp only [th_ite, th_iteb, th_itei, th_itel, th_MO_keep, th_MO_load, th_MO_memories_c3, th_MO_memories_c4, th_MO_memories_c5, th_MO_partly, ite_self]
theorem th_MO_memories_159 (σ : MS) (a1 : Int32) (a2 : Int32) (a3 : Int32) (v159_5 : Bool) (v159_4 : Bool) (w159_0 : Int32) : m_thrown (f_MO_memories_159 σ a1 a2 a3 v159_5 v159_4 w159_0) = m_thrown σ := by
  unfold f_MO_memories_159
  first | rfl | simp only [th_MO_aligned, th_MO_memories_c2]
theorem th_MO_memories_132 (σ : MS) (a1 : Int32) (a2 : Int32) (a3 : Int32) (v132_5 : Bool) (v132_4 : Bool) : m_thrown (f_MO_memories_132 σ a1 a2 a3 v132_5 v132_4) = m_thrown σ := by
  unfold f_MO_memories_132
  first | rfl | simp only [th_MO_memories_159]
theorem th_MO_memories_154 (σ : MS) (a1 : Int32) (a2 : Int32) (a3 : Int32) (v154_5 : Bool) (v154_4 : Bool) : m_thrown (f_MO_memories_154 σ a1 a2 a3 v154_5 v154_4) = m_thrown σ := by
  unfold f_MO_memories_154
  first | rfl | simp only [th_MO_memories_159]
theorem th_MO_memories_c1 (z105 : MS) (a1 : Int32) (a2 : Int32) (a3 : Int32) : m_thrown (f_MO_memories_c1 z105 a1 a2 a3) = m_thrown z105 := by
  unfold f_MO_memories_c1
  rfl
theorem th_MO_memories_89 (σ : MS) (a1 : Int32) (a2 : Int32) (a3 : Int32) (v89_5 : Bool) (v89_4 : Bool) (w89_0 : Bool) : m_thrown (f_MO_memories_89 σ a1 a2 a3 v89_5 v89_4 w89_0) = m_thrown σ := by
  unfold f_MO_memories_89
  simp only [th_ite, th_iteb, th_itei, th_itel, th_MO_memories_132, th_MO_memories_154, th_MO_memories_159, th_MO_memories_c1, th_MO_other, ite_self]
theorem th_MO_memories_84 (σ : MS) (a1 : Int32) (a2 : Int32) (a3 : Int32) (v84_5 : Bool) (v84_4 : Bool) : m_thrown (f_MO_memories_84 σ a1 a2 a3 v84_5 v84_4) = m_thrown σ := by
  unfold f_MO_memories_84
  first | rfl | simp only [th_MO_memories_89]
theorem th_MO_memories_65 (σ : MS) (a1 : Int32) (a2 : Int32) (a3 : Int32) (v65_4 : Bool) (w65_0 : Bool) : m_thrown (f_MO_memories_65 σ a1 a2 a3 v65_4 w65_0) = m_thrown σ := by
  unfold f_MO_memories_65
  simp only [th_ite, th_iteb, th_itei, th_itel, th_MO_memories_84, th_MO_memories_89, ite_self]
theorem th_MO_memories_60 (σ : MS) (a1 : Int32) (a2 : Int32) (a3 : Int32) (v60_4 : Bool) : m_thrown (f_MO_memories_60 σ a1 a2 a3 v60_4) = m_thrown σ := by
  unfold f_MO_memories_60
  first | rfl | simp only [th_MO_memories_65]
theorem th_MO_memories_34 (σ : MS) (a1 : Int32) (a2 : Int32) (a3 : Int32) (w34_0 : Bool) : m_thrown (f_MO_memories_34 σ a1 a2 a3 w34_0) = m_thrown σ := by
  unfold f_MO_memories_34
  simp only [th_ite, th_iteb, th_itei, th_itel, th_MO_memories_60, th_MO_memories_65, ite_self]
theorem th_MO_memories_29 (σ : MS) (a1 : Int32) (a2 : Int32) (a3 : Int32) : m_thrown (f_MO_memories_29 σ a1 a2 a3) = m_thrown σ := by
  unfold f_MO_memories_29
  first | rfl | simp only [th_MO_memories_34]
theorem th_MO_memories_23 (σ : MS) (a1 : Int32) (a2 : Int32) (a3 : Int32) : m_thrown (f_MO_memories_23 σ a1 a2 a3) = m_thrown σ := by
  unfold f_MO_memories_23
  simp only [th_ite, th_iteb, th_itei, th_itel, th_MO_memories_29, th_MO_memories_34, ite_self]
theorem th_MO_memories (σ : MS) (a1 : Int32) (a2 : Int32) (a3 : Int32) : m_thrown (f_MO_memories σ a1 a2 a3) = m_thrown σ := by
  unfold f_MO_memories
  simp only [th_ite, th_iteb, th_itei, th_itel, th_MO_memories_23, th_MO_memories_29, ite_self]
theorem th_MO_perform_c8 (z108 : MS) (a1 : Int32) : m_thrown (f_MO_perform_c8 z108 a1) = m_thrown z108 := by
  unfold f_MO_perform_c8
  rfl
theorem th_MO_perform_99 (σ : MS) (a1 : Int32) (v99_7 : Int32) (v99_6 : Int32) (v99_5 : Int32) (v99_2 : Int32) : m_thrown (f_MO_perform_99 σ a1 v99_7 v99_6 v99_5 v99_2) = m_thrown σ := by
  unfold f_MO_perform_99
  first | rfl | simp only [th_MO_branches, th_MO_perform_c8]
theorem th_MO_perform_c7 (z152 : MS) (a1 : Int32) : m_thrown (f_MO_perform_c7 z152 a1) = m_thrown z152 := by
  unfold f_MO_perform_c7
  rfl
theorem th_MO_perform_146 (σ : MS) (a1 : Int32) (v146_4 : Int32) (v146_3 : Int32) (v146_2 : Int32) : m_thrown (f_MO_perform_146 σ a1 v146_4 v146_3 v146_2) = m_thrown σ := by
  unfold f_MO_perform_146
  first | rfl | simp only [th_MO_perform_c7, th_MO_system]
theorem th_MO_perform_c6 (z58 : MS) (a1 : Int32) : m_thrown (f_MO_perform_c6 z58 a1) = m_thrown z58 := by
  unfold f_MO_perform_c6
  rfl
theorem th_MO_perform_c5 (z76 : MS) (a1 : Int32) : m_thrown (f_MO_perform_c5 z76 a1) = m_thrown z76 := by
  unfold f_MO_perform_c5
  rfl
theorem th_MO_perform_c4 (z128 : MS) (a1 : Int32) : m_thrown (f_MO_perform_c4 z128 a1) = m_thrown z128 := by
  unfold f_MO_perform_c4
  rfl
theorem th_MO_perform_c3 (z170 : MS) (a1 : Int32) : m_thrown (f_MO_perform_c3 z170 a1) = m_thrown z170 := by
  unfold f_MO_perform_c3
  rfl
theorem th_MO_perform_c2 (z191 : MS) (a1 : Int32) : m_thrown (f_MO_perform_c2 z191 a1) = m_thrown z191 := by
  unfold f_MO_perform_c2
  rfl
theorem th_MO_perform_c1 (z199 : MS) (a1 : Int32) : m_thrown (f_MO_perform_c1 z199 a1) = m_thrown z199 := by
  unfold f_MO_perform_c1
  rfl
theorem th_MO_perform (σ : MS) (a1 : Int32) : m_thrown (f_MO_perform σ a1) = m_thrown σ := by
  unfold f_MO_perform
  simp only [th_ite, th_iteb, th_itei, th_itel, th_MO_byRegister, th_MO_immediate, th_MO_memories, th_MO_multiplies, th_MO_other, th_MO_perform_146, th_MO_perform_99, th_MO_perform_c1, th_MO_perform_c2, th_MO_perform_c3, th_MO_perform_c4, th_MO_perform_c5, th_MO_perform_c6, th_MO_special, ite_self]
theorem th_MO_go_c17 (σ225 : MS) (v225_3 : Bool) : m_thrown (f_MO_go_c17 σ225 v225_3).1 = m_thrown σ225 := by
  unfold f_MO_go_c17
  rfl
theorem th_MO_go_225 (σ225 : MS) (v225_3 : Bool) (w225_2 : Int32) : m_thrown (f_MO_go_225 σ225 v225_3 w225_2).1 = m_thrown σ225 := by
  unfold f_MO_go_225
  first | rfl | simp only [th_MO_go_c17, th_ms_sys]
theorem th_MO_go_212 (σ212 : MS) (v212_3 : Bool) : m_thrown (f_MO_go_212 σ212 v212_3).1 = m_thrown σ212 := by
  unfold f_MO_go_212
  first | rfl | simp only [th_MO_go_225]
theorem th_MO_go_182 (σ182 : MS) (v182_3 : Bool) : m_thrown (f_MO_go_182 σ182 v182_3).1 = m_thrown σ182 := by
  unfold f_MO_go_182
  simp only [th_ite, th_iteb, th_itei, th_itel, th_MO_go_212, th_MO_go_225, ite_self]
theorem th_MO_go_c16 (z160 : MS) (w154_0 : Bool) : m_thrown (f_MO_go_c16 z160 w154_0).1 = m_thrown z160 := by
  unfold f_MO_go_c16
  first | rfl | simp only [th_MO_go_182]
theorem th_MO_go_c15 (σ179 : MS) (w154_0 : Bool) : m_thrown (f_MO_go_c15 σ179 w154_0).1 = m_thrown σ179 := by
  unfold f_MO_go_c15
  first | rfl | simp only [th_MO_go_182]
theorem th_MO_go_c14 (σ171 : MS) (w154_0 : Bool) : m_thrown (f_MO_go_c14 σ171 w154_0).1 = m_thrown σ171 := by
  unfold f_MO_go_c14
  first | rfl | simp only [th_MO_go_c15, th_ms_slot]
theorem th_MO_go_154 (σ154 : MS) (w154_0 : Bool) : m_thrown (f_MO_go_154 σ154 w154_0).1 = m_thrown σ154 := by
  unfold f_MO_go_154
  simp only [th_ite, th_iteb, th_itei, th_itel, th_MO_enter, th_MO_go_c14, th_MO_go_c16, th_ms_pc, ite_self]
theorem th_MO_go_142 (σ142 : MS) : m_thrown (f_MO_go_142 σ142).1 = m_thrown σ142 := by
  unfold f_MO_go_142
  simp only [th_ite, th_iteb, th_itei, th_itel, th_MO_go_154, ite_self]
theorem th_MO_go_c13 (z139 : MS) : m_thrown (f_MO_go_c13 z139).1 = m_thrown z139 := by
  unfold f_MO_go_c13
  first | rfl | simp only [th_MO_go_142]
theorem th_MO_go_c12 (σ119 : MS) (v114_1 : Int64) : m_thrown (f_MO_go_c12 σ119 v114_1).1 = m_thrown σ119 := by
  unfold f_MO_go_c12
  simp only [th_ite, th_iteb, th_itei, th_itel, th_MO_go_142, th_MO_go_c13, th_MO_perform, ite_self]
theorem th_MO_go_c11 (σ114 : MS) (v114_1 : Int64) : m_thrown (f_MO_go_c11 σ114 v114_1).1 = m_thrown σ114 := by
  unfold f_MO_go_c11
  first | rfl | simp only [th_MO_go_c12, th_ms_nextSlot]
theorem th_MO_go_114 (σ114 : MS) (v114_1 : Int64) (w114_1 : Int32) : m_thrown (f_MO_go_114 σ114 v114_1 w114_1).1 = m_thrown σ114 := by
  unfold f_MO_go_114
  first | rfl | simp only [th_MO_go_c11, th_ms_next]
theorem th_MO_go_c10 (z76 : MS) : m_thrown (f_MO_go_c10 z76).1 = m_thrown z76 := by
  unfold f_MO_go_c10
  rfl
theorem th_MO_go_c9 (σ72 : MS) : m_thrown (f_MO_go_c9 σ72).1 = m_thrown σ72 := by
  unfold f_MO_go_c9
  first | rfl | simp only [th_MO_enter, th_MO_go_c10]
theorem th_MO_go_c8 (z89 : MS × Int64) : m_thrown (f_MO_go_c8 z89).1 = m_thrown z89.1 := by
  unfold f_MO_go_c8
  simp only [th_ite, th_iteb, th_itei, th_itel, th_MO_go_114, ite_self]
theorem th_MO_go_63 (σ63 : MS) : m_thrown (f_MO_go_63 σ63).1 = m_thrown σ63 := by
  unfold f_MO_go_63
  simp only [th_ite, th_iteb, th_itei, th_itel, th_MO_aligned, th_MO_go_c8, th_MO_go_c9, th_ms_fault, ite_self]
theorem th_MO_go_c7 (σ60 : MS) : m_thrown (f_MO_go_c7 σ60).1 = m_thrown σ60 := by
  unfold f_MO_go_c7
  first | rfl | simp only [th_MO_go_63]
theorem th_MO_go_c6 (σ40 : MS) : m_thrown (f_MO_go_c6 σ40).1 = m_thrown σ40 := by
  unfold f_MO_go_c6
  simp only [th_ite, th_iteb, th_itei, th_itel, th_MO_go_63, th_MO_go_c7, th_ms_timer, ite_self]
theorem th_MO_go_c5 (σ27 : MS) : m_thrown (f_MO_go_c5 σ27).1 = m_thrown σ27 := by
  unfold f_MO_go_c5
  first | rfl | simp only [th_MO_go_c6, th_ms_sys]
theorem th_MO_go_c4 (σ22 : MS) : m_thrown (f_MO_go_c4 σ22).1 = m_thrown σ22 := by
  unfold f_MO_go_c4
  first | rfl | simp only [th_MO_go_c5, th_ms_unit]
theorem th_MO_go_c3 (σ17 : MS) : m_thrown (f_MO_go_c3 σ17).1 = m_thrown σ17 := by
  unfold f_MO_go_c3
  first | rfl | simp only [th_MO_go_c4, th_ms_refills]
theorem th_MO_go_c2 (σ12 : MS) : m_thrown (f_MO_go_c2 σ12).1 = m_thrown σ12 := by
  unfold f_MO_go_c2
  first | rfl | simp only [th_MO_go_c3, th_ms_hasAddress]
theorem th_MO_go_c1 (σ7 : MS) : m_thrown (f_MO_go_c1 σ7).1 = m_thrown σ7 := by
  unfold f_MO_go_c1
  first | rfl | simp only [th_MO_go_c2, th_ms_fault]
theorem th_MO_go (σ : MS) : m_thrown (f_MO_go σ).1 = m_thrown σ := by
  unfold f_MO_go
  first | rfl | simp only [th_MO_go_c1, th_ms_steps]
end THR
