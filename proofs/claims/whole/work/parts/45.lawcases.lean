theorem kw_poke : KW y_LW_poke b_LW_poke 5 (some .int) [(0, 10, 13, 13), (0, 10, 17, 15)] 4 := ⟨mc_LW_poke, mw_272, mw_0, by decide +kernel⟩
theorem kw_peek : KW y_LW_peek b_LW_peek 4 (some .int) [(0, 9, 12, 13), (0, 9, 15, 15)] 3 := ⟨mc_LW_peek, mw_377, mw_0, by decide +kernel⟩
theorem kw_set : KW y_LW_set b_LW_set 5 (some .int) [(0, 7, 10, 15)] 4 := ⟨mc_LW_set, mw_384, mw_0, by decide +kernel⟩
theorem kw_get : KW y_LW_get b_LW_get 5 (some .int) [(0, 10, 13, 15)] 4 := ⟨mc_LW_get, mw_409, mw_0, by decide +kernel⟩
theorem kw_line : KW y_LW_line b_LW_line 5 (some .int) [(0, 17, 20, 15)] 4 := ⟨mc_LW_line, mw_425, mw_0, by decide +kernel⟩
theorem kw_step : KW y_LW_step b_LW_step 4 (some .int) [(0, 9, 12, 13)] 3 := ⟨mc_LW_step, mw_437, mw_0, by decide +kernel⟩
theorem kw_entry : KW y_LW_entry b_LW_entry 5 (some .int) [(0, 10, 13, 15)] 4 := ⟨mc_LW_entry, mw_838, mw_0, by decide +kernel⟩
theorem kw_translate : KW y_LW_translate b_LW_translate 5 (some .int) [(0, 9, 12, 13)] 4 := ⟨mc_LW_translate, mw_850, mw_0, by decide +kernel⟩
theorem kw_count : KW y_LW_count b_LW_count 4 (some .int) [(0, 9, 12, 15)] 3 := ⟨mc_LW_count, mw_862, mw_0, by decide +kernel⟩
def Sm_poke (Rel : XS → MS → Prop) : Prop := ∀ (u : LuS) (τ : MS) (a1 : Int32) (a2 : Int32), Rel u.1 τ → P_MO_poke τ a1 a2 ∧ m_thrown (f_MO_poke τ a1 a2).1 = (h_poke u a1 a2).2 ∧ ((h_poke u a1 a2).2 = 0 → (h_poke u a1 a2).1.2 0 = Int32.toInt64 (f_MO_poke τ a1 a2).2) ∧ Rel (h_poke u a1 a2).1.1 (f_MO_poke τ a1 a2).1
def Sm_peek (Rel : XS → MS → Prop) : Prop := ∀ (u : LuS) (τ : MS) (a1 : Int32), Rel u.1 τ → P_MO_peek τ a1 ∧ m_thrown (f_MO_peek τ a1).1 = (h_peek u a1).2 ∧ ((h_peek u a1).2 = 0 → (h_peek u a1).1.2 0 = Int32.toInt64 (f_MO_peek τ a1).2) ∧ Rel (h_peek u a1).1.1 (f_MO_peek τ a1).1
def Sm_set (Rel : XS → MS → Prop) : Prop := ∀ (u : LuS) (τ : MS) (a1 : Int32) (a2 : Int32) (a3 : Int32), Rel u.1 τ → P_MO_set τ a1 a2 a3 ∧ m_thrown (f_MO_set τ a1 a2 a3) = (h_set u a1 a2 a3).2 ∧ Rel (h_set u a1 a2 a3).1.1 (f_MO_set τ a1 a2 a3)
def Sm_get (Rel : XS → MS → Prop) : Prop := ∀ (u : LuS) (τ : MS) (a1 : Int32) (a2 : Int32), Rel u.1 τ → P_MO_get τ a1 a2 ∧ m_thrown (f_MO_get τ a1 a2).1 = (h_get u a1 a2).2 ∧ ((h_get u a1 a2).2 = 0 → (h_get u a1 a2).1.2 0 = Int32.toInt64 (f_MO_get τ a1 a2).2) ∧ Rel (h_get u a1 a2).1.1 (f_MO_get τ a1 a2).1
def Sm_line (Rel : XS → MS → Prop) : Prop := ∀ (u : LuS) (τ : MS) (a1 : Int32) (a2 : Bool), Rel u.1 τ → P_MO_line τ a1 a2 ∧ m_thrown (f_MO_line τ a1 a2).1 = (h_line u a1 a2).2 ∧ ((h_line u a1 a2).2 = 0 → (h_line u a1 a2).1.2 0 = (if zb (f_MO_line τ a1 a2).2 = 0 then (0 : Int64) else 1)) ∧ Rel (h_line u a1 a2).1.1 (f_MO_line τ a1 a2).1
def Sm_step (Rel : XS → MS → Prop) : Prop := ∀ (u : LuS) (τ : MS) (a1 : Int32), Rel u.1 τ → P_MO_step τ a1 ∧ m_thrown (f_MO_step τ a1).1 = (h_step u a1).2 ∧ ((h_step u a1).2 = 0 → (h_step u a1).1.2 0 = Int32.toInt64 (f_MO_step τ a1).2) ∧ Rel (h_step u a1).1.1 (f_MO_step τ a1).1
def Sm_entry (Rel : XS → MS → Prop) : Prop := ∀ (u : LuS) (τ : MS) (a1 : Int32) (a2 : Int32), Rel u.1 τ → P_MO_entry τ a1 a2 ∧ m_thrown (f_MO_entry τ a1 a2).1 = (h_entry u a1 a2).2 ∧ ((h_entry u a1 a2).2 = 0 → (h_entry u a1 a2).1.2 0 = Int32.toInt64 (f_MO_entry τ a1 a2).2) ∧ Rel (h_entry u a1 a2).1.1 (f_MO_entry τ a1 a2).1
def Sm_translate (Rel : XS → MS → Prop) : Prop := ∀ (u : LuS) (τ : MS) (a1 : Int32) (a2 : Int32), Rel u.1 τ → P_MO_translate τ a1 a2 ∧ m_thrown (f_MO_translate τ a1 a2).1 = (h_translate u a1 a2).2 ∧ ((h_translate u a1 a2).2 = 0 → (h_translate u a1 a2).1.2 0 = (f_MO_translate τ a1 a2).2) ∧ Rel (h_translate u a1 a2).1.1 (f_MO_translate τ a1 a2).1
def Sm_handler (Rel : XS → MS → Prop) : Prop := ∀ (σ : XS) (τ : MS), Rel σ τ → (f_PM_handler σ).2 = (f_MO_handler τ).2 ∧ Rel (f_PM_handler σ).1 (f_MO_handler τ).1
def Sm_count (Rel : XS → MS → Prop) : Prop := ∀ (u : LuS) (τ : MS) (a1 : Int32), Rel u.1 τ → P_MO_count τ a1 ∧ m_thrown (f_MO_count τ a1).1 = (h_count u a1).2 ∧ ((h_count u a1).2 = 0 → (h_count u a1).1.2 0 = Int32.toInt64 (f_MO_count τ a1).2) ∧ Rel (h_count u a1).1.1 (f_MO_count τ a1).1
theorem lg_eq0 {x y : Int64} (h : x = y) : lg_cmp x y = 0 := by
  subst h
  unfold lg_cmp
  rw [if_neg (by rw [gt_iff_lt, Int64.lt_iff_toInt_lt]; omega), if_pos rfl]
section LAWC
variable {p : Program} {l : Launch} {e : Env} {s : State} {m : MethodId} {below : List Frame} {meth : Method} {c : Code} {b L : Nat} {xs : Nat → Int32} {H : Heap} {locs : List Loc} {cells slots : Nat} {Q : State → Prop}
variable {E : Ev} {sa : Nat → Nat} {ad ad2 : Nat → Nat} {oa : Nat} {u : LuS} {τ : MS} {i : Nat} {ls : Array Slot} {Rel : XS → MS → Prop}
abbrev gA (s : State) : Nat → Prop := fun q => s.heap.size ≤ q
abbrev gW (E : Ev) (ad ad2 : Nat → Nat) (oa : Nat) (u : LuS) (τ : MS) : va_W := mW E ad2 τ ++ lW E ad oa u
abbrev gL (b : Nat) (ad ad2 : Nat → Nat) (oa i : Nat) : List (Nat × Value) := [(0, .ref b), (1, .ref (ad 0)), (2, .ref (ad2 0)), (3, .ref oa), (4, .int (nI (4 * i)))]
theorem l_ld {pc j : Nat} {ix : Int32} {rest : List Value} (hx : p.tables.exec = Jvm.exec) (hb : c.code = code) (hX : va_X b L xs s s.heap) (hbl : b < s.heap.size) (hL : L ≤ 2048) (w : Wd xCl E (gA s) s.heap H locs (gW E ad ad2 oa u τ)) (hix : ix = nI j) (hj : j < L) (hdg : decode code pc = .ok (.iaload, 1))
    (kk : W p l e room_1 s m #[Value.ref b] below meth c H locs cells slots Q (F0 m (pc + 1) ls (.int (xs j) :: rest))) : W p l e room_1 s m #[Value.ref b] below meth c H locs cells slots Q (F0 m pc ls (.int ix :: .ref b :: rest)) := by
  subst hix
  have e1 : (nI j).toNatClampNeg = j := nI_clamp (by omega)
  refine va_sld hx hb hX hbl (Nat.not_le.mpr hbl) w.2.2.1 (vp_in_nI hj (by omega)) hdg ?_
  rw [e1]
  exact kk
set_option maxHeartbeats 4000000 in
set_option maxRecDepth 100000 in
theorem lawc_poke (hfl : l.flags = flags0) (hc : Cx xCl E (gA s) p s m #[Value.ref b] meth c code 8 ret "PageMachineLaw") (hth : thF sa xstrs (gA s) s s.heap) (hX : va_X b L xs s s.heap) (hbl : b < s.heap.size) (hL : L ≤ 2048) (hi : 4 * i + 4 ≤ L) (hS : Sm_poke Rel) (hR : Rel u.1 τ) (w : Wd xCl E (gA s) s.heap H locs (gW E ad ad2 oa u τ)) (hl : lv_has ls 8 (gL b ad ad2 oa i)) (hf : cells + 1 ≤ 601024 ∧ slots + 6 ≤ 7293034)
    (kk : ∀ (u : LuS) (τ : MS) (H : Heap) (locs : List Loc) (ls : Array Slot), Rel u.1 τ → Wd xCl E (gA s) s.heap H locs (gW E ad ad2 oa u τ) → lv_has ls 8 (gL b ad ad2 oa i) → W p l e room_1 s m #[Value.ref b] below meth c H locs (cells + 1) (slots + 6) Q (F0 m 695 ls [])) : W p l e room_1 s m #[Value.ref b] below meth c H locs cells slots Q (F0 m 92 ls []) := by
  have hx := hc.1
  have hb := hc.2.1
  have hl : lv_has ls 8 [(0, .ref b), (1, .ref (ad 0)), (2, .ref (ad2 0)), (3, .ref oa), (4, .int (nI (4 * i)))] := hl
  obtain ⟨hSp, hSt, hSo, hS2⟩ := hS u τ (xs (4 * i + 1)) (xs (4 * i + 2)) hR
  refine lv_aload_n hx hb d_LAW_92 rfl (lv_at hl 1 rfl) ?_
  refine lv_aload_n hx hb d_LAW_93 rfl (lv_at hl 0 rfl) ?_
  refine lv_iload hx hb d_LAW_94 (lv_at hl 4 rfl) ?_
  refine lv_iconst (v := 1) hx hb d_LAW_96 (by decide) ?_
  refine lv_iadd hx hb d_LAW_97 ?_
  refine l_ld (j := 4 * i + 1) hx hb hX hbl hL w (nI_add (4 * i) 1) (by omega) d_LAW_98 ?_
  refine lv_aload_n hx hb d_LAW_99 rfl (lv_at hl 0 rfl) ?_
  refine lv_iload hx hb d_LAW_100 (lv_at hl 4 rfl) ?_
  refine lv_iconst (v := 2) hx hb d_LAW_102 (by decide) ?_
  refine lv_iadd hx hb d_LAW_103 ?_
  refine l_ld (j := 4 * i + 2) hx hb hX hbl hL w (nI_add (4 * i) 2) (by omega) d_LAW_104 ?_
  refine lv_aload_n hx hb d_LAW_105 rfl (lv_at hl 3 rfl) ?_
  refine h_cS (wr := mW E ad2 τ) (rest := []) hc hth w (c_LW_poke l hfl E sa ad oa u (xs (4 * i + 1)) (xs (4 * i + 2))) kw_poke mw_271 ⟨Nat.le_of_ble_eq_true rfl, Nat.le_of_ble_eq_true rfl⟩ hl.1 rfl (Nat.le_of_ble_eq_true rfl) hf d_LAW_106 (fun H locs w => ?_)
  have w : Wd xCl E (gA s) s.heap H locs (mW E ad2 τ ++ lW E ad oa (h_poke u (xs (4 * i + 1)) (xs (4 * i + 2))).1) := w
  refine W.eq (g2 := F0 m 109 ls [.int (h_poke u (xs (4 * i + 1)) (xs (4 * i + 2))).2]) rfl ?_
  refine lv_istore (lv' := [(5, .int (h_poke u (xs (4 * i + 1)) (xs (4 * i + 2))).2), (0, .ref b), (1, .ref (ad 0)), (2, .ref (ad2 0)), (3, .ref oa), (4, .int (nI (4 * i)))]) hx hb d_LAW_109 hl (by decide) rfl (fun ls hl => ?_)
  refine lv_aload_n hx hb d_LAW_111 rfl (lv_at hl 3 rfl) ?_
  refine lv_aload_n hx hb d_LAW_112 rfl (lv_at hl 1 rfl) ?_
  refine lv_iload hx hb d_LAW_113 (lv_at hl 5 rfl) ?_
  refine lv_iconst (v := 1) hx hb d_LAW_115 (by decide) ?_
  refine lv_iadd hx hb d_LAW_116 ?_
  refine l_ld (j := 4 * i + 1) hx hb hX hbl hL w (nI_add (4 * i) 1) (by omega) d_LAW_117 ?_
  refine lv_aload_n hx hb d_LAW_118 rfl (lv_at hl 1 rfl) ?_
  refine lv_iload hx hb d_LAW_119 (lv_at hl 5 rfl) ?_
  refine lv_iconst (v := 2) hx hb d_LAW_121 (by decide) ?_
  refine lv_iadd hx hb d_LAW_122 ?_
  refine l_ld (j := 4 * i + 2) hx hb hX hbl hL w (nI_add (4 * i) 2) (by omega) d_LAW_123 ?_
  refine cVfI (wr := lW E ad oa (h_poke u (xs (4 * i + 1)) (xs (4 * i + 2))).1) (rest := []) hc (fr_swap w) (c_MO_poke l E ad2 τ (xs (4 * i + 1)) (xs (4 * i + 2)) hSp) kv_MO_poke mw_967 0 rfl rfl ⟨Nat.le_of_ble_eq_true rfl, Nat.le_of_ble_eq_true rfl⟩ hl.1 rfl (Nat.le_of_ble_eq_true rfl) ⟨by show cells + 1 ≤ 601024; omega, by show slots + 6 ≤ 7293034; omega⟩ d_LAW_124 (fun z H locs hz w => ?_)
  subst hz
  have w := fr_swap w
  refine lv_istore (lv' := [(6, .int (f_MO_poke τ (xs (4 * i + 1)) (xs (4 * i + 2))).2), (5, .int (h_poke u (xs (4 * i + 1)) (xs (4 * i + 2))).2), (0, .ref b), (1, .ref (ad 0)), (2, .ref (ad2 0)), (3, .ref oa), (4, .int (nI (4 * i)))]) hx hb d_LAW_127 hl (by decide) rfl (fun ls hl => ?_)
  refine lv_aload_n hx hb d_LAW_129 rfl (lv_at hl 4 rfl) ?_
  refine cVf (wr := lW E ad oa (h_poke u (xs (4 * i + 1)) (xs (4 * i + 2))).1) (rest := []) hc (fr_swap w) (c_MO_thrown l E ad2 (f_MO_poke τ (xs (4 * i + 1)) (xs (4 * i + 2))).1) kv_MO_thrown mw_963 0 rfl rfl ⟨Nat.le_of_ble_eq_true rfl, Nat.le_of_ble_eq_true rfl⟩ hl.1 rfl (Nat.le_of_ble_eq_true rfl) ⟨by show cells + 1 ≤ 601024; omega, by show slots + 6 ≤ 7293034; omega⟩ d_LAW_130 (fun H locs w => ?_)
  have w := fr_swap w
  have w : Wd xCl E (gA s) s.heap H locs (gW E ad ad2 oa (h_poke u (xs (4 * i + 1)) (xs (4 * i + 2))).1 (f_MO_poke τ (xs (4 * i + 1)) (xs (4 * i + 2))).1) := w
  refine W.eq (g2 := F0 m 133 ls [.int (m_thrown (f_MO_poke τ (xs (4 * i + 1)) (xs (4 * i + 2))).1)]) rfl ?_
  refine lv_iload hx hb d_LAW_133 (lv_at hl 1 rfl) ?_
  refine lv_icmp_eq (tgt := 140) hx hb d_LAW_135 (by decide) (fun q1 => ?_) (fun q1 => absurd hSt q1)
  refine lv_iload hx hb d_LAW_140 (lv_at hl 1 rfl) ?_
  have fin : ∀ (H : Heap) (locs : List Loc) (ls : Array Slot), Wd xCl E (gA s) s.heap H locs (gW E ad ad2 oa (h_poke u (xs (4 * i + 1)) (xs (4 * i + 2))).1 (f_MO_poke τ (xs (4 * i + 1)) (xs (4 * i + 2))).1) → lv_has ls 8 [(6, .int (f_MO_poke τ (xs (4 * i + 1)) (xs (4 * i + 2))).2), (5, .int (h_poke u (xs (4 * i + 1)) (xs (4 * i + 2))).2), (0, .ref b), (1, .ref (ad 0)), (2, .ref (ad2 0)), (3, .ref oa), (4, .int (nI (4 * i)))] → W p l e room_1 s m #[Value.ref b] below meth c H locs (cells + 1) (slots + 6) Q (F0 m 157 ls []) := by
    intro H locs ls w hl
    refine lv_goto (tgt := 695) hx hb d_LAW_157 (by decide) ?_
    exact kk (h_poke u (xs (4 * i + 1)) (xs (4 * i + 2))).1 (f_MO_poke τ (xs (4 * i + 1)) (xs (4 * i + 2))).1 _ _ _ hS2 w (lv_sub hl [2, 3, 4, 5, 6] rfl)
  refine lv_if_ne (tgt := 157) hx hb d_LAW_142 (by decide) (fun q2 => fin _ _ _ w hl) (fun q2 => ?_)
  have hSv := hSo q2
  refine lv_aload_n hx hb d_LAW_145 rfl (lv_at hl 5 rfl) ?_
  refine lv_iconst (v := 0) hx hb d_LAW_146 (by decide) ?_
  refine va_lald (D := E.1) hx hb hc.2.2.2.2.2.2.2.1 w.1 10 2 (cA := E.2.1.2.2) (n := 1) (f := (h_poke u (xs (4 * i + 1)) (xs (4 * i + 2))).1.2) rfl rfl (by unfold vp_in; decide) d_LAW_147 ?_
  refine lv_iload hx hb d_LAW_148 (lv_at hl 0 rfl) ?_
  refine lv_i2l hx hb d_LAW_150 rfl ?_
  refine W.lcmp hx hb d_LAW_151 ?_
  exact lv_if_eq (tgt := 157) hx hb d_LAW_152 (by decide) (fun q3 => fin _ _ _ w hl) (fun q3 => absurd (lg_eq0 hSv) q3)
set_option maxHeartbeats 4000000 in
set_option maxRecDepth 100000 in
theorem lawc_peek (hfl : l.flags = flags0) (hc : Cx xCl E (gA s) p s m #[Value.ref b] meth c code 8 ret "PageMachineLaw") (hth : thF sa xstrs (gA s) s s.heap) (hX : va_X b L xs s s.heap) (hbl : b < s.heap.size) (hL : L ≤ 2048) (hi : 4 * i + 4 ≤ L) (hS : Sm_peek Rel) (hR : Rel u.1 τ) (w : Wd xCl E (gA s) s.heap H locs (gW E ad ad2 oa u τ)) (hl : lv_has ls 8 (gL b ad ad2 oa i)) (hf : cells + 1 ≤ 601024 ∧ slots + 6 ≤ 7293034)
    (kk : ∀ (u : LuS) (τ : MS) (H : Heap) (locs : List Loc) (ls : Array Slot), Rel u.1 τ → Wd xCl E (gA s) s.heap H locs (gW E ad ad2 oa u τ) → lv_has ls 8 (gL b ad ad2 oa i) → W p l e room_1 s m #[Value.ref b] below meth c H locs (cells + 1) (slots + 6) Q (F0 m 695 ls [])) : W p l e room_1 s m #[Value.ref b] below meth c H locs cells slots Q (F0 m 160 ls []) := by
  have hx := hc.1
  have hb := hc.2.1
  have hl : lv_has ls 8 [(0, .ref b), (1, .ref (ad 0)), (2, .ref (ad2 0)), (3, .ref oa), (4, .int (nI (4 * i)))] := hl
  obtain ⟨hSp, hSt, hSo, hS2⟩ := hS u τ (xs (4 * i + 1)) hR
  refine lv_aload_n hx hb d_LAW_160 rfl (lv_at hl 1 rfl) ?_
  refine lv_aload_n hx hb d_LAW_161 rfl (lv_at hl 0 rfl) ?_
  refine lv_iload hx hb d_LAW_162 (lv_at hl 4 rfl) ?_
  refine lv_iconst (v := 1) hx hb d_LAW_164 (by decide) ?_
  refine lv_iadd hx hb d_LAW_165 ?_
  refine l_ld (j := 4 * i + 1) hx hb hX hbl hL w (nI_add (4 * i) 1) (by omega) d_LAW_166 ?_
  refine lv_aload_n hx hb d_LAW_167 rfl (lv_at hl 3 rfl) ?_
  refine h_cS (wr := mW E ad2 τ) (rest := []) hc hth w (c_LW_peek l hfl E sa ad oa u (xs (4 * i + 1))) kw_peek mw_376 ⟨Nat.le_of_ble_eq_true rfl, Nat.le_of_ble_eq_true rfl⟩ hl.1 rfl (Nat.le_of_ble_eq_true rfl) hf d_LAW_168 (fun H locs w => ?_)
  have w : Wd xCl E (gA s) s.heap H locs (mW E ad2 τ ++ lW E ad oa (h_peek u (xs (4 * i + 1))).1) := w
  refine W.eq (g2 := F0 m 171 ls [.int (h_peek u (xs (4 * i + 1))).2]) rfl ?_
  refine lv_istore (lv' := [(5, .int (h_peek u (xs (4 * i + 1))).2), (0, .ref b), (1, .ref (ad 0)), (2, .ref (ad2 0)), (3, .ref oa), (4, .int (nI (4 * i)))]) hx hb d_LAW_171 hl (by decide) rfl (fun ls hl => ?_)
  refine lv_aload_n hx hb d_LAW_173 rfl (lv_at hl 3 rfl) ?_
  refine lv_aload_n hx hb d_LAW_174 rfl (lv_at hl 1 rfl) ?_
  refine lv_iload hx hb d_LAW_175 (lv_at hl 5 rfl) ?_
  refine lv_iconst (v := 1) hx hb d_LAW_177 (by decide) ?_
  refine lv_iadd hx hb d_LAW_178 ?_
  refine l_ld (j := 4 * i + 1) hx hb hX hbl hL w (nI_add (4 * i) 1) (by omega) d_LAW_179 ?_
  refine cVfI (wr := lW E ad oa (h_peek u (xs (4 * i + 1))).1) (rest := []) hc (fr_swap w) (c_MO_peek l E ad2 τ (xs (4 * i + 1)) hSp) kv_MO_peek mw_979 0 rfl rfl ⟨Nat.le_of_ble_eq_true rfl, Nat.le_of_ble_eq_true rfl⟩ hl.1 rfl (Nat.le_of_ble_eq_true rfl) ⟨by show cells + 1 ≤ 601024; omega, by show slots + 6 ≤ 7293034; omega⟩ d_LAW_180 (fun z H locs hz w => ?_)
  subst hz
  have w := fr_swap w
  refine lv_istore (lv' := [(6, .int (f_MO_peek τ (xs (4 * i + 1))).2), (5, .int (h_peek u (xs (4 * i + 1))).2), (0, .ref b), (1, .ref (ad 0)), (2, .ref (ad2 0)), (3, .ref oa), (4, .int (nI (4 * i)))]) hx hb d_LAW_183 hl (by decide) rfl (fun ls hl => ?_)
  refine lv_aload_n hx hb d_LAW_185 rfl (lv_at hl 4 rfl) ?_
  refine cVf (wr := lW E ad oa (h_peek u (xs (4 * i + 1))).1) (rest := []) hc (fr_swap w) (c_MO_thrown l E ad2 (f_MO_peek τ (xs (4 * i + 1))).1) kv_MO_thrown mw_963 0 rfl rfl ⟨Nat.le_of_ble_eq_true rfl, Nat.le_of_ble_eq_true rfl⟩ hl.1 rfl (Nat.le_of_ble_eq_true rfl) ⟨by show cells + 1 ≤ 601024; omega, by show slots + 6 ≤ 7293034; omega⟩ d_LAW_186 (fun H locs w => ?_)
  have w := fr_swap w
  have w : Wd xCl E (gA s) s.heap H locs (gW E ad ad2 oa (h_peek u (xs (4 * i + 1))).1 (f_MO_peek τ (xs (4 * i + 1))).1) := w
  refine W.eq (g2 := F0 m 189 ls [.int (m_thrown (f_MO_peek τ (xs (4 * i + 1))).1)]) rfl ?_
  refine lv_iload hx hb d_LAW_189 (lv_at hl 1 rfl) ?_
  refine lv_icmp_eq (tgt := 196) hx hb d_LAW_191 (by decide) (fun q1 => ?_) (fun q1 => absurd hSt q1)
  refine lv_iload hx hb d_LAW_196 (lv_at hl 1 rfl) ?_
  have fin : ∀ (H : Heap) (locs : List Loc) (ls : Array Slot), Wd xCl E (gA s) s.heap H locs (gW E ad ad2 oa (h_peek u (xs (4 * i + 1))).1 (f_MO_peek τ (xs (4 * i + 1))).1) → lv_has ls 8 [(6, .int (f_MO_peek τ (xs (4 * i + 1))).2), (5, .int (h_peek u (xs (4 * i + 1))).2), (0, .ref b), (1, .ref (ad 0)), (2, .ref (ad2 0)), (3, .ref oa), (4, .int (nI (4 * i)))] → W p l e room_1 s m #[Value.ref b] below meth c H locs (cells + 1) (slots + 6) Q (F0 m 213 ls []) := by
    intro H locs ls w hl
    refine lv_goto (tgt := 695) hx hb d_LAW_213 (by decide) ?_
    exact kk (h_peek u (xs (4 * i + 1))).1 (f_MO_peek τ (xs (4 * i + 1))).1 _ _ _ hS2 w (lv_sub hl [2, 3, 4, 5, 6] rfl)
  refine lv_if_ne (tgt := 213) hx hb d_LAW_198 (by decide) (fun q2 => fin _ _ _ w hl) (fun q2 => ?_)
  have hSv := hSo q2
  refine lv_aload_n hx hb d_LAW_201 rfl (lv_at hl 5 rfl) ?_
  refine lv_iconst (v := 0) hx hb d_LAW_202 (by decide) ?_
  refine va_lald (D := E.1) hx hb hc.2.2.2.2.2.2.2.1 w.1 10 2 (cA := E.2.1.2.2) (n := 1) (f := (h_peek u (xs (4 * i + 1))).1.2) rfl rfl (by unfold vp_in; decide) d_LAW_203 ?_
  refine lv_iload hx hb d_LAW_204 (lv_at hl 0 rfl) ?_
  refine lv_i2l hx hb d_LAW_206 rfl ?_
  refine W.lcmp hx hb d_LAW_207 ?_
  exact lv_if_eq (tgt := 213) hx hb d_LAW_208 (by decide) (fun q3 => fin _ _ _ w hl) (fun q3 => absurd (lg_eq0 hSv) q3)
set_option maxHeartbeats 4000000 in
set_option maxRecDepth 100000 in
theorem lawc_set (hfl : l.flags = flags0) (hc : Cx xCl E (gA s) p s m #[Value.ref b] meth c code 8 ret "PageMachineLaw") (hth : thF sa xstrs (gA s) s s.heap) (hX : va_X b L xs s s.heap) (hbl : b < s.heap.size) (hL : L ≤ 2048) (hi : 4 * i + 4 ≤ L) (hS : Sm_set Rel) (hR : Rel u.1 τ) (w : Wd xCl E (gA s) s.heap H locs (gW E ad ad2 oa u τ)) (hl : lv_has ls 8 (gL b ad ad2 oa i)) (hf : cells + 1 ≤ 601024 ∧ slots + 6 ≤ 7293034)
    (kk : ∀ (u : LuS) (τ : MS) (H : Heap) (locs : List Loc) (ls : Array Slot), Rel u.1 τ → Wd xCl E (gA s) s.heap H locs (gW E ad ad2 oa u τ) → lv_has ls 8 (gL b ad ad2 oa i) → W p l e room_1 s m #[Value.ref b] below meth c H locs (cells + 1) (slots + 6) Q (F0 m 695 ls [])) : W p l e room_1 s m #[Value.ref b] below meth c H locs cells slots Q (F0 m 216 ls []) := by
  have hx := hc.1
  have hb := hc.2.1
  have hl : lv_has ls 8 [(0, .ref b), (1, .ref (ad 0)), (2, .ref (ad2 0)), (3, .ref oa), (4, .int (nI (4 * i)))] := hl
  obtain ⟨hSp, hSt, hS2⟩ := hS u τ (xs (4 * i + 1)) (xs (4 * i + 2)) (xs (4 * i + 3)) hR
  refine lv_aload_n hx hb d_LAW_216 rfl (lv_at hl 1 rfl) ?_
  refine lv_aload_n hx hb d_LAW_217 rfl (lv_at hl 0 rfl) ?_
  refine lv_iload hx hb d_LAW_218 (lv_at hl 4 rfl) ?_
  refine lv_iconst (v := 1) hx hb d_LAW_220 (by decide) ?_
  refine lv_iadd hx hb d_LAW_221 ?_
  refine l_ld (j := 4 * i + 1) hx hb hX hbl hL w (nI_add (4 * i) 1) (by omega) d_LAW_222 ?_
  refine lv_aload_n hx hb d_LAW_223 rfl (lv_at hl 0 rfl) ?_
  refine lv_iload hx hb d_LAW_224 (lv_at hl 4 rfl) ?_
  refine lv_iconst (v := 2) hx hb d_LAW_226 (by decide) ?_
  refine lv_iadd hx hb d_LAW_227 ?_
  refine l_ld (j := 4 * i + 2) hx hb hX hbl hL w (nI_add (4 * i) 2) (by omega) d_LAW_228 ?_
  refine lv_aload_n hx hb d_LAW_229 rfl (lv_at hl 0 rfl) ?_
  refine lv_iload hx hb d_LAW_230 (lv_at hl 4 rfl) ?_
  refine lv_iconst (v := 3) hx hb d_LAW_232 (by decide) ?_
  refine lv_iadd hx hb d_LAW_233 ?_
  refine l_ld (j := 4 * i + 3) hx hb hX hbl hL w (nI_add (4 * i) 3) (by omega) d_LAW_234 ?_
  refine h_cS (wr := mW E ad2 τ) (rest := []) hc hth w (c_LW_set l hfl E sa ad oa u (xs (4 * i + 1)) (xs (4 * i + 2)) (xs (4 * i + 3))) kw_set mw_383 ⟨Nat.le_of_ble_eq_true rfl, Nat.le_of_ble_eq_true rfl⟩ hl.1 rfl (Nat.le_of_ble_eq_true rfl) hf d_LAW_235 (fun H locs w => ?_)
  have w : Wd xCl E (gA s) s.heap H locs (mW E ad2 τ ++ lW E ad oa (h_set u (xs (4 * i + 1)) (xs (4 * i + 2)) (xs (4 * i + 3))).1) := w
  refine W.eq (g2 := F0 m 238 ls [.int (h_set u (xs (4 * i + 1)) (xs (4 * i + 2)) (xs (4 * i + 3))).2]) rfl ?_
  refine lv_istore (lv' := [(5, .int (h_set u (xs (4 * i + 1)) (xs (4 * i + 2)) (xs (4 * i + 3))).2), (0, .ref b), (1, .ref (ad 0)), (2, .ref (ad2 0)), (3, .ref oa), (4, .int (nI (4 * i)))]) hx hb d_LAW_238 hl (by decide) rfl (fun ls hl => ?_)
  refine lv_aload_n hx hb d_LAW_240 rfl (lv_at hl 3 rfl) ?_
  refine lv_aload_n hx hb d_LAW_241 rfl (lv_at hl 1 rfl) ?_
  refine lv_iload hx hb d_LAW_242 (lv_at hl 5 rfl) ?_
  refine lv_iconst (v := 1) hx hb d_LAW_244 (by decide) ?_
  refine lv_iadd hx hb d_LAW_245 ?_
  refine l_ld (j := 4 * i + 1) hx hb hX hbl hL w (nI_add (4 * i) 1) (by omega) d_LAW_246 ?_
  refine lv_aload_n hx hb d_LAW_247 rfl (lv_at hl 1 rfl) ?_
  refine lv_iload hx hb d_LAW_248 (lv_at hl 5 rfl) ?_
  refine lv_iconst (v := 2) hx hb d_LAW_250 (by decide) ?_
  refine lv_iadd hx hb d_LAW_251 ?_
  refine l_ld (j := 4 * i + 2) hx hb hX hbl hL w (nI_add (4 * i) 2) (by omega) d_LAW_252 ?_
  refine lv_aload_n hx hb d_LAW_253 rfl (lv_at hl 1 rfl) ?_
  refine lv_iload hx hb d_LAW_254 (lv_at hl 5 rfl) ?_
  refine lv_iconst (v := 3) hx hb d_LAW_256 (by decide) ?_
  refine lv_iadd hx hb d_LAW_257 ?_
  refine l_ld (j := 4 * i + 3) hx hb hX hbl hL w (nI_add (4 * i) 3) (by omega) d_LAW_258 ?_
  refine cVfV (wr := lW E ad oa (h_set u (xs (4 * i + 1)) (xs (4 * i + 2)) (xs (4 * i + 3))).1) (rest := []) hc (fr_swap w) (c_MO_set l E ad2 τ (xs (4 * i + 1)) (xs (4 * i + 2)) (xs (4 * i + 3)) hSp) kv_MO_set mw_983 0 rfl rfl ⟨Nat.le_of_ble_eq_true rfl, Nat.le_of_ble_eq_true rfl⟩ hl.1 rfl (Nat.le_of_ble_eq_true rfl) ⟨by show cells + 1 ≤ 601024; omega, by show slots + 6 ≤ 7293034; omega⟩ d_LAW_259 (fun z H locs hz w => ?_)
  subst hz
  have w := fr_swap w
  refine lv_aload_n hx hb d_LAW_262 rfl (lv_at hl 3 rfl) ?_
  refine cVf (wr := lW E ad oa (h_set u (xs (4 * i + 1)) (xs (4 * i + 2)) (xs (4 * i + 3))).1) (rest := []) hc (fr_swap w) (c_MO_thrown l E ad2 (f_MO_set τ (xs (4 * i + 1)) (xs (4 * i + 2)) (xs (4 * i + 3)))) kv_MO_thrown mw_963 0 rfl rfl ⟨Nat.le_of_ble_eq_true rfl, Nat.le_of_ble_eq_true rfl⟩ hl.1 rfl (Nat.le_of_ble_eq_true rfl) ⟨by show cells + 1 ≤ 601024; omega, by show slots + 6 ≤ 7293034; omega⟩ d_LAW_263 (fun H locs w => ?_)
  have w := fr_swap w
  have w : Wd xCl E (gA s) s.heap H locs (gW E ad ad2 oa (h_set u (xs (4 * i + 1)) (xs (4 * i + 2)) (xs (4 * i + 3))).1 (f_MO_set τ (xs (4 * i + 1)) (xs (4 * i + 2)) (xs (4 * i + 3)))) := w
  refine W.eq (g2 := F0 m 266 ls [.int (m_thrown (f_MO_set τ (xs (4 * i + 1)) (xs (4 * i + 2)) (xs (4 * i + 3))))]) rfl ?_
  refine lv_iload hx hb d_LAW_266 (lv_at hl 0 rfl) ?_
  refine lv_icmp_eq (tgt := 273) hx hb d_LAW_268 (by decide) (fun q1 => ?_) (fun q1 => absurd hSt q1)
  refine lv_goto (tgt := 695) hx hb d_LAW_273 (by decide) ?_
  exact kk (h_set u (xs (4 * i + 1)) (xs (4 * i + 2)) (xs (4 * i + 3))).1 (f_MO_set τ (xs (4 * i + 1)) (xs (4 * i + 2)) (xs (4 * i + 3))) _ _ _ hS2 w (lv_sub hl [1, 2, 3, 4, 5] rfl)
set_option maxHeartbeats 4000000 in
set_option maxRecDepth 100000 in
theorem lawc_get (hfl : l.flags = flags0) (hc : Cx xCl E (gA s) p s m #[Value.ref b] meth c code 8 ret "PageMachineLaw") (hth : thF sa xstrs (gA s) s s.heap) (hX : va_X b L xs s s.heap) (hbl : b < s.heap.size) (hL : L ≤ 2048) (hi : 4 * i + 4 ≤ L) (hS : Sm_get Rel) (hR : Rel u.1 τ) (w : Wd xCl E (gA s) s.heap H locs (gW E ad ad2 oa u τ)) (hl : lv_has ls 8 (gL b ad ad2 oa i)) (hf : cells + 1 ≤ 601024 ∧ slots + 6 ≤ 7293034)
    (kk : ∀ (u : LuS) (τ : MS) (H : Heap) (locs : List Loc) (ls : Array Slot), Rel u.1 τ → Wd xCl E (gA s) s.heap H locs (gW E ad ad2 oa u τ) → lv_has ls 8 (gL b ad ad2 oa i) → W p l e room_1 s m #[Value.ref b] below meth c H locs (cells + 1) (slots + 6) Q (F0 m 695 ls [])) : W p l e room_1 s m #[Value.ref b] below meth c H locs cells slots Q (F0 m 276 ls []) := by
  have hx := hc.1
  have hb := hc.2.1
  have hl : lv_has ls 8 [(0, .ref b), (1, .ref (ad 0)), (2, .ref (ad2 0)), (3, .ref oa), (4, .int (nI (4 * i)))] := hl
  obtain ⟨hSp, hSt, hSo, hS2⟩ := hS u τ (xs (4 * i + 1)) (xs (4 * i + 2)) hR
  refine lv_aload_n hx hb d_LAW_276 rfl (lv_at hl 1 rfl) ?_
  refine lv_aload_n hx hb d_LAW_277 rfl (lv_at hl 0 rfl) ?_
  refine lv_iload hx hb d_LAW_278 (lv_at hl 4 rfl) ?_
  refine lv_iconst (v := 1) hx hb d_LAW_280 (by decide) ?_
  refine lv_iadd hx hb d_LAW_281 ?_
  refine l_ld (j := 4 * i + 1) hx hb hX hbl hL w (nI_add (4 * i) 1) (by omega) d_LAW_282 ?_
  refine lv_aload_n hx hb d_LAW_283 rfl (lv_at hl 0 rfl) ?_
  refine lv_iload hx hb d_LAW_284 (lv_at hl 4 rfl) ?_
  refine lv_iconst (v := 2) hx hb d_LAW_286 (by decide) ?_
  refine lv_iadd hx hb d_LAW_287 ?_
  refine l_ld (j := 4 * i + 2) hx hb hX hbl hL w (nI_add (4 * i) 2) (by omega) d_LAW_288 ?_
  refine lv_aload_n hx hb d_LAW_289 rfl (lv_at hl 3 rfl) ?_
  refine h_cS (wr := mW E ad2 τ) (rest := []) hc hth w (c_LW_get l hfl E sa ad oa u (xs (4 * i + 1)) (xs (4 * i + 2))) kw_get mw_408 ⟨Nat.le_of_ble_eq_true rfl, Nat.le_of_ble_eq_true rfl⟩ hl.1 rfl (Nat.le_of_ble_eq_true rfl) hf d_LAW_290 (fun H locs w => ?_)
  have w : Wd xCl E (gA s) s.heap H locs (mW E ad2 τ ++ lW E ad oa (h_get u (xs (4 * i + 1)) (xs (4 * i + 2))).1) := w
  refine W.eq (g2 := F0 m 293 ls [.int (h_get u (xs (4 * i + 1)) (xs (4 * i + 2))).2]) rfl ?_
  refine lv_istore (lv' := [(5, .int (h_get u (xs (4 * i + 1)) (xs (4 * i + 2))).2), (0, .ref b), (1, .ref (ad 0)), (2, .ref (ad2 0)), (3, .ref oa), (4, .int (nI (4 * i)))]) hx hb d_LAW_293 hl (by decide) rfl (fun ls hl => ?_)
  refine lv_aload_n hx hb d_LAW_295 rfl (lv_at hl 3 rfl) ?_
  refine lv_aload_n hx hb d_LAW_296 rfl (lv_at hl 1 rfl) ?_
  refine lv_iload hx hb d_LAW_297 (lv_at hl 5 rfl) ?_
  refine lv_iconst (v := 1) hx hb d_LAW_299 (by decide) ?_
  refine lv_iadd hx hb d_LAW_300 ?_
  refine l_ld (j := 4 * i + 1) hx hb hX hbl hL w (nI_add (4 * i) 1) (by omega) d_LAW_301 ?_
  refine lv_aload_n hx hb d_LAW_302 rfl (lv_at hl 1 rfl) ?_
  refine lv_iload hx hb d_LAW_303 (lv_at hl 5 rfl) ?_
  refine lv_iconst (v := 2) hx hb d_LAW_305 (by decide) ?_
  refine lv_iadd hx hb d_LAW_306 ?_
  refine l_ld (j := 4 * i + 2) hx hb hX hbl hL w (nI_add (4 * i) 2) (by omega) d_LAW_307 ?_
  refine cVfI (wr := lW E ad oa (h_get u (xs (4 * i + 1)) (xs (4 * i + 2))).1) (rest := []) hc (fr_swap w) (c_MO_get l E ad2 τ (xs (4 * i + 1)) (xs (4 * i + 2)) hSp) kv_MO_get mw_1004 0 rfl rfl ⟨Nat.le_of_ble_eq_true rfl, Nat.le_of_ble_eq_true rfl⟩ hl.1 rfl (Nat.le_of_ble_eq_true rfl) ⟨by show cells + 1 ≤ 601024; omega, by show slots + 6 ≤ 7293034; omega⟩ d_LAW_308 (fun z H locs hz w => ?_)
  subst hz
  have w := fr_swap w
  refine lv_istore (lv' := [(6, .int (f_MO_get τ (xs (4 * i + 1)) (xs (4 * i + 2))).2), (5, .int (h_get u (xs (4 * i + 1)) (xs (4 * i + 2))).2), (0, .ref b), (1, .ref (ad 0)), (2, .ref (ad2 0)), (3, .ref oa), (4, .int (nI (4 * i)))]) hx hb d_LAW_311 hl (by decide) rfl (fun ls hl => ?_)
  refine lv_aload_n hx hb d_LAW_313 rfl (lv_at hl 4 rfl) ?_
  refine cVf (wr := lW E ad oa (h_get u (xs (4 * i + 1)) (xs (4 * i + 2))).1) (rest := []) hc (fr_swap w) (c_MO_thrown l E ad2 (f_MO_get τ (xs (4 * i + 1)) (xs (4 * i + 2))).1) kv_MO_thrown mw_963 0 rfl rfl ⟨Nat.le_of_ble_eq_true rfl, Nat.le_of_ble_eq_true rfl⟩ hl.1 rfl (Nat.le_of_ble_eq_true rfl) ⟨by show cells + 1 ≤ 601024; omega, by show slots + 6 ≤ 7293034; omega⟩ d_LAW_314 (fun H locs w => ?_)
  have w := fr_swap w
  have w : Wd xCl E (gA s) s.heap H locs (gW E ad ad2 oa (h_get u (xs (4 * i + 1)) (xs (4 * i + 2))).1 (f_MO_get τ (xs (4 * i + 1)) (xs (4 * i + 2))).1) := w
  refine W.eq (g2 := F0 m 317 ls [.int (m_thrown (f_MO_get τ (xs (4 * i + 1)) (xs (4 * i + 2))).1)]) rfl ?_
  refine lv_iload hx hb d_LAW_317 (lv_at hl 1 rfl) ?_
  refine lv_icmp_eq (tgt := 324) hx hb d_LAW_319 (by decide) (fun q1 => ?_) (fun q1 => absurd hSt q1)
  refine lv_iload hx hb d_LAW_324 (lv_at hl 1 rfl) ?_
  have fin : ∀ (H : Heap) (locs : List Loc) (ls : Array Slot), Wd xCl E (gA s) s.heap H locs (gW E ad ad2 oa (h_get u (xs (4 * i + 1)) (xs (4 * i + 2))).1 (f_MO_get τ (xs (4 * i + 1)) (xs (4 * i + 2))).1) → lv_has ls 8 [(6, .int (f_MO_get τ (xs (4 * i + 1)) (xs (4 * i + 2))).2), (5, .int (h_get u (xs (4 * i + 1)) (xs (4 * i + 2))).2), (0, .ref b), (1, .ref (ad 0)), (2, .ref (ad2 0)), (3, .ref oa), (4, .int (nI (4 * i)))] → W p l e room_1 s m #[Value.ref b] below meth c H locs (cells + 1) (slots + 6) Q (F0 m 341 ls []) := by
    intro H locs ls w hl
    refine lv_goto (tgt := 695) hx hb d_LAW_341 (by decide) ?_
    exact kk (h_get u (xs (4 * i + 1)) (xs (4 * i + 2))).1 (f_MO_get τ (xs (4 * i + 1)) (xs (4 * i + 2))).1 _ _ _ hS2 w (lv_sub hl [2, 3, 4, 5, 6] rfl)
  refine lv_if_ne (tgt := 341) hx hb d_LAW_326 (by decide) (fun q2 => fin _ _ _ w hl) (fun q2 => ?_)
  have hSv := hSo q2
  refine lv_aload_n hx hb d_LAW_329 rfl (lv_at hl 5 rfl) ?_
  refine lv_iconst (v := 0) hx hb d_LAW_330 (by decide) ?_
  refine va_lald (D := E.1) hx hb hc.2.2.2.2.2.2.2.1 w.1 10 2 (cA := E.2.1.2.2) (n := 1) (f := (h_get u (xs (4 * i + 1)) (xs (4 * i + 2))).1.2) rfl rfl (by unfold vp_in; decide) d_LAW_331 ?_
  refine lv_iload hx hb d_LAW_332 (lv_at hl 0 rfl) ?_
  refine lv_i2l hx hb d_LAW_334 rfl ?_
  refine W.lcmp hx hb d_LAW_335 ?_
  exact lv_if_eq (tgt := 341) hx hb d_LAW_336 (by decide) (fun q3 => fin _ _ _ w hl) (fun q3 => absurd (lg_eq0 hSv) q3)
set_option maxHeartbeats 4000000 in
set_option maxRecDepth 100000 in
theorem lawc_line (hfl : l.flags = flags0) (hc : Cx xCl E (gA s) p s m #[Value.ref b] meth c code 8 ret "PageMachineLaw") (hth : thF sa xstrs (gA s) s s.heap) (hX : va_X b L xs s s.heap) (hbl : b < s.heap.size) (hL : L ≤ 2048) (hi : 4 * i + 4 ≤ L) (hS : Sm_line Rel) (hR : Rel u.1 τ) (w : Wd xCl E (gA s) s.heap H locs (gW E ad ad2 oa u τ)) (hl : lv_has ls 8 (gL b ad ad2 oa i)) (hf : cells + 1 ≤ 601024 ∧ slots + 6 ≤ 7293034)
    (kk : ∀ (u : LuS) (τ : MS) (H : Heap) (locs : List Loc) (ls : Array Slot), Rel u.1 τ → Wd xCl E (gA s) s.heap H locs (gW E ad ad2 oa u τ) → lv_has ls 8 (gL b ad ad2 oa i) → W p l e room_1 s m #[Value.ref b] below meth c H locs (cells + 1) (slots + 6) Q (F0 m 695 ls [])) : W p l e room_1 s m #[Value.ref b] below meth c H locs cells slots Q (F0 m 344 ls []) := by
  have hx := hc.1
  have hb := hc.2.1
  have hl : lv_has ls 8 [(0, .ref b), (1, .ref (ad 0)), (2, .ref (ad2 0)), (3, .ref oa), (4, .int (nI (4 * i)))] := hl
  obtain ⟨hSp, hSt, hSo, hS2⟩ := hS u τ (xs (4 * i + 1)) (!(decide (xs (4 * i + 2) = 0))) hR
  refine lv_aload_n hx hb d_LAW_344 rfl (lv_at hl 1 rfl) ?_
  refine lv_aload_n hx hb d_LAW_345 rfl (lv_at hl 0 rfl) ?_
  refine lv_iload hx hb d_LAW_346 (lv_at hl 4 rfl) ?_
  refine lv_iconst (v := 1) hx hb d_LAW_348 (by decide) ?_
  refine lv_iadd hx hb d_LAW_349 ?_
  refine l_ld (j := 4 * i + 1) hx hb hX hbl hL w (nI_add (4 * i) 1) (by omega) d_LAW_350 ?_
  refine lv_aload_n hx hb d_LAW_351 rfl (lv_at hl 0 rfl) ?_
  refine lv_iload hx hb d_LAW_352 (lv_at hl 4 rfl) ?_
  refine lv_iconst (v := 2) hx hb d_LAW_354 (by decide) ?_
  refine lv_iadd hx hb d_LAW_355 ?_
  refine l_ld (j := 4 * i + 2) hx hb hX hbl hL w (nI_add (4 * i) 2) (by omega) d_LAW_356 ?_
  have J357 : W p l e room_1 s m #[Value.ref b] below meth c H locs cells slots Q (F0 m 365 ls [.int (zb (!(decide (xs (4 * i + 2) = 0)))), .int (xs (4 * i + 1)), .ref (ad 0)]) → W p l e room_1 s m #[Value.ref b] below meth c H locs cells slots Q (F0 m 357 ls [.int (xs (4 * i + 2)), .int (xs (4 * i + 1)), .ref (ad 0)]) := by
    intro J
    refine lv_if_eq (tgt := 364) hx hb d_LAW_357 (by decide) (fun q => ?_) (fun q => ?_)
    · refine lv_iconst (v := 0) hx hb d_LAW_364 (by decide) ?_
      have e9 : zb (!(decide (xs (4 * i + 2) = 0))) = 0 := by rw [decide_eq_true q]; rfl
      rw [e9] at J
      exact J
    · refine lv_iconst (v := 1) hx hb d_LAW_360 (by decide) ?_
      refine lv_goto (tgt := 365) hx hb d_LAW_361 (by decide) ?_
      have e9 : zb (!(decide (xs (4 * i + 2) = 0))) = 1 := by rw [decide_eq_false q]; rfl
      rw [e9] at J
      exact J
  refine J357 ?_
  refine lv_aload_n hx hb d_LAW_365 rfl (lv_at hl 3 rfl) ?_
  refine h_cS (wr := mW E ad2 τ) (rest := []) hc hth w (c_LW_line l hfl E sa ad oa u (xs (4 * i + 1)) (!(decide (xs (4 * i + 2) = 0)))) kw_line mw_424 ⟨Nat.le_of_ble_eq_true rfl, Nat.le_of_ble_eq_true rfl⟩ hl.1 rfl (Nat.le_of_ble_eq_true rfl) hf d_LAW_366 (fun H locs w => ?_)
  have w : Wd xCl E (gA s) s.heap H locs (mW E ad2 τ ++ lW E ad oa (h_line u (xs (4 * i + 1)) (!(decide (xs (4 * i + 2) = 0)))).1) := w
  refine W.eq (g2 := F0 m 369 ls [.int (h_line u (xs (4 * i + 1)) (!(decide (xs (4 * i + 2) = 0)))).2]) rfl ?_
  refine lv_istore (lv' := [(5, .int (h_line u (xs (4 * i + 1)) (!(decide (xs (4 * i + 2) = 0)))).2), (0, .ref b), (1, .ref (ad 0)), (2, .ref (ad2 0)), (3, .ref oa), (4, .int (nI (4 * i)))]) hx hb d_LAW_369 hl (by decide) rfl (fun ls hl => ?_)
  refine lv_aload_n hx hb d_LAW_371 rfl (lv_at hl 3 rfl) ?_
  refine lv_aload_n hx hb d_LAW_372 rfl (lv_at hl 1 rfl) ?_
  refine lv_iload hx hb d_LAW_373 (lv_at hl 5 rfl) ?_
  refine lv_iconst (v := 1) hx hb d_LAW_375 (by decide) ?_
  refine lv_iadd hx hb d_LAW_376 ?_
  refine l_ld (j := 4 * i + 1) hx hb hX hbl hL w (nI_add (4 * i) 1) (by omega) d_LAW_377 ?_
  refine lv_aload_n hx hb d_LAW_378 rfl (lv_at hl 1 rfl) ?_
  refine lv_iload hx hb d_LAW_379 (lv_at hl 5 rfl) ?_
  refine lv_iconst (v := 2) hx hb d_LAW_381 (by decide) ?_
  refine lv_iadd hx hb d_LAW_382 ?_
  refine l_ld (j := 4 * i + 2) hx hb hX hbl hL w (nI_add (4 * i) 2) (by omega) d_LAW_383 ?_
  have J384 : W p l e room_1 s m #[Value.ref b] below meth c H locs (cells + 1) (slots + 6) Q (F0 m 392 ls [.int (zb (!(decide (xs (4 * i + 2) = 0)))), .int (xs (4 * i + 1)), .ref (ad2 0)]) → W p l e room_1 s m #[Value.ref b] below meth c H locs (cells + 1) (slots + 6) Q (F0 m 384 ls [.int (xs (4 * i + 2)), .int (xs (4 * i + 1)), .ref (ad2 0)]) := by
    intro J
    refine lv_if_eq (tgt := 391) hx hb d_LAW_384 (by decide) (fun q => ?_) (fun q => ?_)
    · refine lv_iconst (v := 0) hx hb d_LAW_391 (by decide) ?_
      have e9 : zb (!(decide (xs (4 * i + 2) = 0))) = 0 := by rw [decide_eq_true q]; rfl
      rw [e9] at J
      exact J
    · refine lv_iconst (v := 1) hx hb d_LAW_387 (by decide) ?_
      refine lv_goto (tgt := 392) hx hb d_LAW_388 (by decide) ?_
      have e9 : zb (!(decide (xs (4 * i + 2) = 0))) = 1 := by rw [decide_eq_false q]; rfl
      rw [e9] at J
      exact J
  refine J384 ?_
  refine cVfZ (wr := lW E ad oa (h_line u (xs (4 * i + 1)) (!(decide (xs (4 * i + 2) = 0)))).1) (rest := []) hc (fr_swap w) (c_MO_line l E ad2 τ (xs (4 * i + 1)) (!(decide (xs (4 * i + 2) = 0))) hSp) kv_MO_line mw_1012 0 rfl rfl ⟨Nat.le_of_ble_eq_true rfl, Nat.le_of_ble_eq_true rfl⟩ hl.1 rfl (Nat.le_of_ble_eq_true rfl) ⟨by show cells + 1 ≤ 601024; omega, by show slots + 6 ≤ 7293034; omega⟩ d_LAW_392 (fun z H locs hz w => ?_)
  subst hz
  have w := fr_swap w
  refine lv_istore (lv' := [(6, .int (zb (f_MO_line τ (xs (4 * i + 1)) (!(decide (xs (4 * i + 2) = 0)))).2)), (5, .int (h_line u (xs (4 * i + 1)) (!(decide (xs (4 * i + 2) = 0)))).2), (0, .ref b), (1, .ref (ad 0)), (2, .ref (ad2 0)), (3, .ref oa), (4, .int (nI (4 * i)))]) hx hb d_LAW_395 hl (by decide) rfl (fun ls hl => ?_)
  refine lv_aload_n hx hb d_LAW_397 rfl (lv_at hl 4 rfl) ?_
  refine cVf (wr := lW E ad oa (h_line u (xs (4 * i + 1)) (!(decide (xs (4 * i + 2) = 0)))).1) (rest := []) hc (fr_swap w) (c_MO_thrown l E ad2 (f_MO_line τ (xs (4 * i + 1)) (!(decide (xs (4 * i + 2) = 0)))).1) kv_MO_thrown mw_963 0 rfl rfl ⟨Nat.le_of_ble_eq_true rfl, Nat.le_of_ble_eq_true rfl⟩ hl.1 rfl (Nat.le_of_ble_eq_true rfl) ⟨by show cells + 1 ≤ 601024; omega, by show slots + 6 ≤ 7293034; omega⟩ d_LAW_398 (fun H locs w => ?_)
  have w := fr_swap w
  have w : Wd xCl E (gA s) s.heap H locs (gW E ad ad2 oa (h_line u (xs (4 * i + 1)) (!(decide (xs (4 * i + 2) = 0)))).1 (f_MO_line τ (xs (4 * i + 1)) (!(decide (xs (4 * i + 2) = 0)))).1) := w
  refine W.eq (g2 := F0 m 401 ls [.int (m_thrown (f_MO_line τ (xs (4 * i + 1)) (!(decide (xs (4 * i + 2) = 0)))).1)]) rfl ?_
  refine lv_iload hx hb d_LAW_401 (lv_at hl 1 rfl) ?_
  refine lv_icmp_eq (tgt := 408) hx hb d_LAW_403 (by decide) (fun q1 => ?_) (fun q1 => absurd hSt q1)
  refine lv_iload hx hb d_LAW_408 (lv_at hl 1 rfl) ?_
  have fin : ∀ (H : Heap) (locs : List Loc) (ls : Array Slot), Wd xCl E (gA s) s.heap H locs (gW E ad ad2 oa (h_line u (xs (4 * i + 1)) (!(decide (xs (4 * i + 2) = 0)))).1 (f_MO_line τ (xs (4 * i + 1)) (!(decide (xs (4 * i + 2) = 0)))).1) → lv_has ls 8 [(6, .int (zb (f_MO_line τ (xs (4 * i + 1)) (!(decide (xs (4 * i + 2) = 0)))).2)), (5, .int (h_line u (xs (4 * i + 1)) (!(decide (xs (4 * i + 2) = 0)))).2), (0, .ref b), (1, .ref (ad 0)), (2, .ref (ad2 0)), (3, .ref oa), (4, .int (nI (4 * i)))] → W p l e room_1 s m #[Value.ref b] below meth c H locs (cells + 1) (slots + 6) Q (F0 m 432 ls []) := by
    intro H locs ls w hl
    refine lv_goto (tgt := 695) hx hb d_LAW_432 (by decide) ?_
    exact kk (h_line u (xs (4 * i + 1)) (!(decide (xs (4 * i + 2) = 0)))).1 (f_MO_line τ (xs (4 * i + 1)) (!(decide (xs (4 * i + 2) = 0)))).1 _ _ _ hS2 w (lv_sub hl [2, 3, 4, 5, 6] rfl)
  refine lv_if_ne (tgt := 432) hx hb d_LAW_410 (by decide) (fun q2 => fin _ _ _ w hl) (fun q2 => ?_)
  have hSv := hSo q2
  refine lv_aload_n hx hb d_LAW_413 rfl (lv_at hl 5 rfl) ?_
  refine lv_iconst (v := 0) hx hb d_LAW_414 (by decide) ?_
  refine va_lald (D := E.1) hx hb hc.2.2.2.2.2.2.2.1 w.1 10 2 (cA := E.2.1.2.2) (n := 1) (f := (h_line u (xs (4 * i + 1)) (!(decide (xs (4 * i + 2) = 0)))).1.2) rfl rfl (by unfold vp_in; decide) d_LAW_415 ?_
  refine lv_iload hx hb d_LAW_416 (lv_at hl 0 rfl) ?_
  have J418 : W p l e room_1 s m #[Value.ref b] below meth c H locs (cells + 1) (slots + 6) Q (F0 m 426 ls [.long (if (zb (f_MO_line τ (xs (4 * i + 1)) (!(decide (xs (4 * i + 2) = 0)))).2) = 0 then (0 : Int64) else 1), .long ((h_line u (xs (4 * i + 1)) (!(decide (xs (4 * i + 2) = 0)))).1.2 0)]) → W p l e room_1 s m #[Value.ref b] below meth c H locs (cells + 1) (slots + 6) Q (F0 m 418 ls [.int (zb (f_MO_line τ (xs (4 * i + 1)) (!(decide (xs (4 * i + 2) = 0)))).2), .long ((h_line u (xs (4 * i + 1)) (!(decide (xs (4 * i + 2) = 0)))).1.2 0)]) := by
    intro J
    refine lv_if_eq (tgt := 425) hx hb d_LAW_418 (by decide) (fun q => ?_) (fun q => ?_)
    · refine lv_lconst (v := 0) hx hb d_LAW_425 (by decide) ?_
      rw [if_pos q] at J
      exact J
    · refine lv_lconst (v := 1) hx hb d_LAW_421 (by decide) ?_
      refine lv_goto (tgt := 426) hx hb d_LAW_422 (by decide) ?_
      rw [if_neg q] at J
      exact J
  refine J418 ?_
  refine W.lcmp hx hb d_LAW_426 ?_
  exact lv_if_eq (tgt := 432) hx hb d_LAW_427 (by decide) (fun q3 => fin _ _ _ w hl) (fun q3 => absurd (lg_eq0 hSv) q3)
set_option maxHeartbeats 4000000 in
set_option maxRecDepth 100000 in
theorem lawc_step (hfl : l.flags = flags0) (hc : Cx xCl E (gA s) p s m #[Value.ref b] meth c code 8 ret "PageMachineLaw") (hth : thF sa xstrs (gA s) s s.heap) (hX : va_X b L xs s s.heap) (hbl : b < s.heap.size) (hL : L ≤ 2048) (hi : 4 * i + 4 ≤ L) (hS : Sm_step Rel) (hR : Rel u.1 τ) (w : Wd xCl E (gA s) s.heap H locs (gW E ad ad2 oa u τ)) (hl : lv_has ls 8 (gL b ad ad2 oa i)) (hf : cells + 1 ≤ 601024 ∧ slots + 6 ≤ 7293034)
    (kk : ∀ (u : LuS) (τ : MS) (H : Heap) (locs : List Loc) (ls : Array Slot), Rel u.1 τ → Wd xCl E (gA s) s.heap H locs (gW E ad ad2 oa u τ) → lv_has ls 8 (gL b ad ad2 oa i) → W p l e room_1 s m #[Value.ref b] below meth c H locs (cells + 1) (slots + 6) Q (F0 m 695 ls [])) : W p l e room_1 s m #[Value.ref b] below meth c H locs cells slots Q (F0 m 435 ls []) := by
  have hx := hc.1
  have hb := hc.2.1
  have hl : lv_has ls 8 [(0, .ref b), (1, .ref (ad 0)), (2, .ref (ad2 0)), (3, .ref oa), (4, .int (nI (4 * i)))] := hl
  obtain ⟨hSp, hSt, hSo, hS2⟩ := hS u τ (xs (4 * i + 1)) hR
  refine lv_aload_n hx hb d_LAW_435 rfl (lv_at hl 1 rfl) ?_
  refine lv_aload_n hx hb d_LAW_436 rfl (lv_at hl 0 rfl) ?_
  refine lv_iload hx hb d_LAW_437 (lv_at hl 4 rfl) ?_
  refine lv_iconst (v := 1) hx hb d_LAW_439 (by decide) ?_
  refine lv_iadd hx hb d_LAW_440 ?_
  refine l_ld (j := 4 * i + 1) hx hb hX hbl hL w (nI_add (4 * i) 1) (by omega) d_LAW_441 ?_
  refine lv_aload_n hx hb d_LAW_442 rfl (lv_at hl 3 rfl) ?_
  refine h_cS (wr := mW E ad2 τ) (rest := []) hc hth w (c_LW_step l hfl E sa ad oa u (xs (4 * i + 1))) kw_step mw_436 ⟨Nat.le_of_ble_eq_true rfl, Nat.le_of_ble_eq_true rfl⟩ hl.1 rfl (Nat.le_of_ble_eq_true rfl) hf d_LAW_443 (fun H locs w => ?_)
  have w : Wd xCl E (gA s) s.heap H locs (mW E ad2 τ ++ lW E ad oa (h_step u (xs (4 * i + 1))).1) := w
  refine W.eq (g2 := F0 m 446 ls [.int (h_step u (xs (4 * i + 1))).2]) rfl ?_
  refine lv_istore (lv' := [(5, .int (h_step u (xs (4 * i + 1))).2), (0, .ref b), (1, .ref (ad 0)), (2, .ref (ad2 0)), (3, .ref oa), (4, .int (nI (4 * i)))]) hx hb d_LAW_446 hl (by decide) rfl (fun ls hl => ?_)
  refine lv_aload_n hx hb d_LAW_448 rfl (lv_at hl 3 rfl) ?_
  refine lv_aload_n hx hb d_LAW_449 rfl (lv_at hl 1 rfl) ?_
  refine lv_iload hx hb d_LAW_450 (lv_at hl 5 rfl) ?_
  refine lv_iconst (v := 1) hx hb d_LAW_452 (by decide) ?_
  refine lv_iadd hx hb d_LAW_453 ?_
  refine l_ld (j := 4 * i + 1) hx hb hX hbl hL w (nI_add (4 * i) 1) (by omega) d_LAW_454 ?_
  refine cVfI (wr := lW E ad oa (h_step u (xs (4 * i + 1))).1) (rest := []) hc (fr_swap w) (c_MO_step l E ad2 τ (xs (4 * i + 1)) hSp) kv_MO_step mw_1016 0 rfl rfl ⟨Nat.le_of_ble_eq_true rfl, Nat.le_of_ble_eq_true rfl⟩ hl.1 rfl (Nat.le_of_ble_eq_true rfl) ⟨by show cells + 1 ≤ 601024; omega, by show slots + 6 ≤ 7293034; omega⟩ d_LAW_455 (fun z H locs hz w => ?_)
  subst hz
  have w := fr_swap w
  refine lv_istore (lv' := [(6, .int (f_MO_step τ (xs (4 * i + 1))).2), (5, .int (h_step u (xs (4 * i + 1))).2), (0, .ref b), (1, .ref (ad 0)), (2, .ref (ad2 0)), (3, .ref oa), (4, .int (nI (4 * i)))]) hx hb d_LAW_458 hl (by decide) rfl (fun ls hl => ?_)
  refine lv_aload_n hx hb d_LAW_460 rfl (lv_at hl 4 rfl) ?_
  refine cVf (wr := lW E ad oa (h_step u (xs (4 * i + 1))).1) (rest := []) hc (fr_swap w) (c_MO_thrown l E ad2 (f_MO_step τ (xs (4 * i + 1))).1) kv_MO_thrown mw_963 0 rfl rfl ⟨Nat.le_of_ble_eq_true rfl, Nat.le_of_ble_eq_true rfl⟩ hl.1 rfl (Nat.le_of_ble_eq_true rfl) ⟨by show cells + 1 ≤ 601024; omega, by show slots + 6 ≤ 7293034; omega⟩ d_LAW_461 (fun H locs w => ?_)
  have w := fr_swap w
  have w : Wd xCl E (gA s) s.heap H locs (gW E ad ad2 oa (h_step u (xs (4 * i + 1))).1 (f_MO_step τ (xs (4 * i + 1))).1) := w
  refine W.eq (g2 := F0 m 464 ls [.int (m_thrown (f_MO_step τ (xs (4 * i + 1))).1)]) rfl ?_
  refine lv_iload hx hb d_LAW_464 (lv_at hl 1 rfl) ?_
  refine lv_icmp_eq (tgt := 471) hx hb d_LAW_466 (by decide) (fun q1 => ?_) (fun q1 => absurd hSt q1)
  refine lv_iload hx hb d_LAW_471 (lv_at hl 1 rfl) ?_
  have fin : ∀ (H : Heap) (locs : List Loc) (ls : Array Slot), Wd xCl E (gA s) s.heap H locs (gW E ad ad2 oa (h_step u (xs (4 * i + 1))).1 (f_MO_step τ (xs (4 * i + 1))).1) → lv_has ls 8 [(6, .int (f_MO_step τ (xs (4 * i + 1))).2), (5, .int (h_step u (xs (4 * i + 1))).2), (0, .ref b), (1, .ref (ad 0)), (2, .ref (ad2 0)), (3, .ref oa), (4, .int (nI (4 * i)))] → W p l e room_1 s m #[Value.ref b] below meth c H locs (cells + 1) (slots + 6) Q (F0 m 488 ls []) := by
    intro H locs ls w hl
    refine lv_goto (tgt := 695) hx hb d_LAW_488 (by decide) ?_
    exact kk (h_step u (xs (4 * i + 1))).1 (f_MO_step τ (xs (4 * i + 1))).1 _ _ _ hS2 w (lv_sub hl [2, 3, 4, 5, 6] rfl)
  refine lv_if_ne (tgt := 488) hx hb d_LAW_473 (by decide) (fun q2 => fin _ _ _ w hl) (fun q2 => ?_)
  have hSv := hSo q2
  refine lv_aload_n hx hb d_LAW_476 rfl (lv_at hl 5 rfl) ?_
  refine lv_iconst (v := 0) hx hb d_LAW_477 (by decide) ?_
  refine va_lald (D := E.1) hx hb hc.2.2.2.2.2.2.2.1 w.1 10 2 (cA := E.2.1.2.2) (n := 1) (f := (h_step u (xs (4 * i + 1))).1.2) rfl rfl (by unfold vp_in; decide) d_LAW_478 ?_
  refine lv_iload hx hb d_LAW_479 (lv_at hl 0 rfl) ?_
  refine lv_i2l hx hb d_LAW_481 rfl ?_
  refine W.lcmp hx hb d_LAW_482 ?_
  exact lv_if_eq (tgt := 488) hx hb d_LAW_483 (by decide) (fun q3 => fin _ _ _ w hl) (fun q3 => absurd (lg_eq0 hSv) q3)
set_option maxHeartbeats 4000000 in
set_option maxRecDepth 100000 in
theorem lawc_entry (hfl : l.flags = flags0) (hc : Cx xCl E (gA s) p s m #[Value.ref b] meth c code 8 ret "PageMachineLaw") (hth : thF sa xstrs (gA s) s s.heap) (hX : va_X b L xs s s.heap) (hbl : b < s.heap.size) (hL : L ≤ 2048) (hi : 4 * i + 4 ≤ L) (hS : Sm_entry Rel) (hR : Rel u.1 τ) (w : Wd xCl E (gA s) s.heap H locs (gW E ad ad2 oa u τ)) (hl : lv_has ls 8 (gL b ad ad2 oa i)) (hf : cells + 1 ≤ 601024 ∧ slots + 6 ≤ 7293034)
    (kk : ∀ (u : LuS) (τ : MS) (H : Heap) (locs : List Loc) (ls : Array Slot), Rel u.1 τ → Wd xCl E (gA s) s.heap H locs (gW E ad ad2 oa u τ) → lv_has ls 8 (gL b ad ad2 oa i) → W p l e room_1 s m #[Value.ref b] below meth c H locs (cells + 1) (slots + 6) Q (F0 m 695 ls [])) : W p l e room_1 s m #[Value.ref b] below meth c H locs cells slots Q (F0 m 491 ls []) := by
  have hx := hc.1
  have hb := hc.2.1
  have hl : lv_has ls 8 [(0, .ref b), (1, .ref (ad 0)), (2, .ref (ad2 0)), (3, .ref oa), (4, .int (nI (4 * i)))] := hl
  obtain ⟨hSp, hSt, hSo, hS2⟩ := hS u τ (xs (4 * i + 1)) (xs (4 * i + 2)) hR
  refine lv_aload_n hx hb d_LAW_491 rfl (lv_at hl 1 rfl) ?_
  refine lv_aload_n hx hb d_LAW_492 rfl (lv_at hl 0 rfl) ?_
  refine lv_iload hx hb d_LAW_493 (lv_at hl 4 rfl) ?_
  refine lv_iconst (v := 1) hx hb d_LAW_495 (by decide) ?_
  refine lv_iadd hx hb d_LAW_496 ?_
  refine l_ld (j := 4 * i + 1) hx hb hX hbl hL w (nI_add (4 * i) 1) (by omega) d_LAW_497 ?_
  refine lv_aload_n hx hb d_LAW_498 rfl (lv_at hl 0 rfl) ?_
  refine lv_iload hx hb d_LAW_499 (lv_at hl 4 rfl) ?_
  refine lv_iconst (v := 2) hx hb d_LAW_501 (by decide) ?_
  refine lv_iadd hx hb d_LAW_502 ?_
  refine l_ld (j := 4 * i + 2) hx hb hX hbl hL w (nI_add (4 * i) 2) (by omega) d_LAW_503 ?_
  refine lv_aload_n hx hb d_LAW_504 rfl (lv_at hl 3 rfl) ?_
  refine h_cS (wr := mW E ad2 τ) (rest := []) hc hth w (c_LW_entry l hfl E sa ad oa u (xs (4 * i + 1)) (xs (4 * i + 2))) kw_entry mw_837 ⟨Nat.le_of_ble_eq_true rfl, Nat.le_of_ble_eq_true rfl⟩ hl.1 rfl (Nat.le_of_ble_eq_true rfl) hf d_LAW_505 (fun H locs w => ?_)
  have w : Wd xCl E (gA s) s.heap H locs (mW E ad2 τ ++ lW E ad oa (h_entry u (xs (4 * i + 1)) (xs (4 * i + 2))).1) := w
  refine W.eq (g2 := F0 m 508 ls [.int (h_entry u (xs (4 * i + 1)) (xs (4 * i + 2))).2]) rfl ?_
  refine lv_istore (lv' := [(5, .int (h_entry u (xs (4 * i + 1)) (xs (4 * i + 2))).2), (0, .ref b), (1, .ref (ad 0)), (2, .ref (ad2 0)), (3, .ref oa), (4, .int (nI (4 * i)))]) hx hb d_LAW_508 hl (by decide) rfl (fun ls hl => ?_)
  refine lv_aload_n hx hb d_LAW_510 rfl (lv_at hl 3 rfl) ?_
  refine lv_aload_n hx hb d_LAW_511 rfl (lv_at hl 1 rfl) ?_
  refine lv_iload hx hb d_LAW_512 (lv_at hl 5 rfl) ?_
  refine lv_iconst (v := 1) hx hb d_LAW_514 (by decide) ?_
  refine lv_iadd hx hb d_LAW_515 ?_
  refine l_ld (j := 4 * i + 1) hx hb hX hbl hL w (nI_add (4 * i) 1) (by omega) d_LAW_516 ?_
  refine lv_aload_n hx hb d_LAW_517 rfl (lv_at hl 1 rfl) ?_
  refine lv_iload hx hb d_LAW_518 (lv_at hl 5 rfl) ?_
  refine lv_iconst (v := 2) hx hb d_LAW_520 (by decide) ?_
  refine lv_iadd hx hb d_LAW_521 ?_
  refine l_ld (j := 4 * i + 2) hx hb hX hbl hL w (nI_add (4 * i) 2) (by omega) d_LAW_522 ?_
  refine cVfI (wr := lW E ad oa (h_entry u (xs (4 * i + 1)) (xs (4 * i + 2))).1) (rest := []) hc (fr_swap w) (c_MO_entry l E ad2 τ (xs (4 * i + 1)) (xs (4 * i + 2)) hSp) kv_MO_entry mw_1179 0 rfl rfl ⟨Nat.le_of_ble_eq_true rfl, Nat.le_of_ble_eq_true rfl⟩ hl.1 rfl (Nat.le_of_ble_eq_true rfl) ⟨by show cells + 1 ≤ 601024; omega, by show slots + 6 ≤ 7293034; omega⟩ d_LAW_523 (fun z H locs hz w => ?_)
  subst hz
  have w := fr_swap w
  refine lv_istore (lv' := [(6, .int (f_MO_entry τ (xs (4 * i + 1)) (xs (4 * i + 2))).2), (5, .int (h_entry u (xs (4 * i + 1)) (xs (4 * i + 2))).2), (0, .ref b), (1, .ref (ad 0)), (2, .ref (ad2 0)), (3, .ref oa), (4, .int (nI (4 * i)))]) hx hb d_LAW_526 hl (by decide) rfl (fun ls hl => ?_)
  refine lv_aload_n hx hb d_LAW_528 rfl (lv_at hl 4 rfl) ?_
  refine cVf (wr := lW E ad oa (h_entry u (xs (4 * i + 1)) (xs (4 * i + 2))).1) (rest := []) hc (fr_swap w) (c_MO_thrown l E ad2 (f_MO_entry τ (xs (4 * i + 1)) (xs (4 * i + 2))).1) kv_MO_thrown mw_963 0 rfl rfl ⟨Nat.le_of_ble_eq_true rfl, Nat.le_of_ble_eq_true rfl⟩ hl.1 rfl (Nat.le_of_ble_eq_true rfl) ⟨by show cells + 1 ≤ 601024; omega, by show slots + 6 ≤ 7293034; omega⟩ d_LAW_529 (fun H locs w => ?_)
  have w := fr_swap w
  have w : Wd xCl E (gA s) s.heap H locs (gW E ad ad2 oa (h_entry u (xs (4 * i + 1)) (xs (4 * i + 2))).1 (f_MO_entry τ (xs (4 * i + 1)) (xs (4 * i + 2))).1) := w
  refine W.eq (g2 := F0 m 532 ls [.int (m_thrown (f_MO_entry τ (xs (4 * i + 1)) (xs (4 * i + 2))).1)]) rfl ?_
  refine lv_iload hx hb d_LAW_532 (lv_at hl 1 rfl) ?_
  refine lv_icmp_eq (tgt := 539) hx hb d_LAW_534 (by decide) (fun q1 => ?_) (fun q1 => absurd hSt q1)
  refine lv_iload hx hb d_LAW_539 (lv_at hl 1 rfl) ?_
  have fin : ∀ (H : Heap) (locs : List Loc) (ls : Array Slot), Wd xCl E (gA s) s.heap H locs (gW E ad ad2 oa (h_entry u (xs (4 * i + 1)) (xs (4 * i + 2))).1 (f_MO_entry τ (xs (4 * i + 1)) (xs (4 * i + 2))).1) → lv_has ls 8 [(6, .int (f_MO_entry τ (xs (4 * i + 1)) (xs (4 * i + 2))).2), (5, .int (h_entry u (xs (4 * i + 1)) (xs (4 * i + 2))).2), (0, .ref b), (1, .ref (ad 0)), (2, .ref (ad2 0)), (3, .ref oa), (4, .int (nI (4 * i)))] → W p l e room_1 s m #[Value.ref b] below meth c H locs (cells + 1) (slots + 6) Q (F0 m 556 ls []) := by
    intro H locs ls w hl
    refine lv_goto (tgt := 695) hx hb d_LAW_556 (by decide) ?_
    exact kk (h_entry u (xs (4 * i + 1)) (xs (4 * i + 2))).1 (f_MO_entry τ (xs (4 * i + 1)) (xs (4 * i + 2))).1 _ _ _ hS2 w (lv_sub hl [2, 3, 4, 5, 6] rfl)
  refine lv_if_ne (tgt := 556) hx hb d_LAW_541 (by decide) (fun q2 => fin _ _ _ w hl) (fun q2 => ?_)
  have hSv := hSo q2
  refine lv_aload_n hx hb d_LAW_544 rfl (lv_at hl 5 rfl) ?_
  refine lv_iconst (v := 0) hx hb d_LAW_545 (by decide) ?_
  refine va_lald (D := E.1) hx hb hc.2.2.2.2.2.2.2.1 w.1 10 2 (cA := E.2.1.2.2) (n := 1) (f := (h_entry u (xs (4 * i + 1)) (xs (4 * i + 2))).1.2) rfl rfl (by unfold vp_in; decide) d_LAW_546 ?_
  refine lv_iload hx hb d_LAW_547 (lv_at hl 0 rfl) ?_
  refine lv_i2l hx hb d_LAW_549 rfl ?_
  refine W.lcmp hx hb d_LAW_550 ?_
  exact lv_if_eq (tgt := 556) hx hb d_LAW_551 (by decide) (fun q3 => fin _ _ _ w hl) (fun q3 => absurd (lg_eq0 hSv) q3)
set_option maxHeartbeats 4000000 in
set_option maxRecDepth 100000 in
theorem lawc_translate (hfl : l.flags = flags0) (hc : Cx xCl E (gA s) p s m #[Value.ref b] meth c code 8 ret "PageMachineLaw") (hth : thF sa xstrs (gA s) s s.heap) (hX : va_X b L xs s s.heap) (hbl : b < s.heap.size) (hL : L ≤ 2048) (hi : 4 * i + 4 ≤ L) (hS : Sm_translate Rel) (hR : Rel u.1 τ) (w : Wd xCl E (gA s) s.heap H locs (gW E ad ad2 oa u τ)) (hl : lv_has ls 8 (gL b ad ad2 oa i)) (hf : cells + 1 ≤ 601024 ∧ slots + 6 ≤ 7293034)
    (kk : ∀ (u : LuS) (τ : MS) (H : Heap) (locs : List Loc) (ls : Array Slot), Rel u.1 τ → Wd xCl E (gA s) s.heap H locs (gW E ad ad2 oa u τ) → lv_has ls 8 (gL b ad ad2 oa i) → W p l e room_1 s m #[Value.ref b] below meth c H locs (cells + 1) (slots + 6) Q (F0 m 695 ls [])) : W p l e room_1 s m #[Value.ref b] below meth c H locs cells slots Q (F0 m 559 ls []) := by
  have hx := hc.1
  have hb := hc.2.1
  have hl : lv_has ls 8 [(0, .ref b), (1, .ref (ad 0)), (2, .ref (ad2 0)), (3, .ref oa), (4, .int (nI (4 * i)))] := hl
  obtain ⟨hSp, hSt, hSo, hS2⟩ := hS u τ (xs (4 * i + 1)) (xs (4 * i + 2)) hR
  refine lv_aload_n hx hb d_LAW_559 rfl (lv_at hl 1 rfl) ?_
  refine lv_aload_n hx hb d_LAW_560 rfl (lv_at hl 0 rfl) ?_
  refine lv_iload hx hb d_LAW_561 (lv_at hl 4 rfl) ?_
  refine lv_iconst (v := 1) hx hb d_LAW_563 (by decide) ?_
  refine lv_iadd hx hb d_LAW_564 ?_
  refine l_ld (j := 4 * i + 1) hx hb hX hbl hL w (nI_add (4 * i) 1) (by omega) d_LAW_565 ?_
  refine lv_aload_n hx hb d_LAW_566 rfl (lv_at hl 0 rfl) ?_
  refine lv_iload hx hb d_LAW_567 (lv_at hl 4 rfl) ?_
  refine lv_iconst (v := 2) hx hb d_LAW_569 (by decide) ?_
  refine lv_iadd hx hb d_LAW_570 ?_
  refine l_ld (j := 4 * i + 2) hx hb hX hbl hL w (nI_add (4 * i) 2) (by omega) d_LAW_571 ?_
  refine lv_aload_n hx hb d_LAW_572 rfl (lv_at hl 3 rfl) ?_
  refine h_cS (wr := mW E ad2 τ) (rest := []) hc hth w (c_LW_translate l hfl E sa ad oa u (xs (4 * i + 1)) (xs (4 * i + 2))) kw_translate mw_849 ⟨Nat.le_of_ble_eq_true rfl, Nat.le_of_ble_eq_true rfl⟩ hl.1 rfl (Nat.le_of_ble_eq_true rfl) hf d_LAW_573 (fun H locs w => ?_)
  have w : Wd xCl E (gA s) s.heap H locs (mW E ad2 τ ++ lW E ad oa (h_translate u (xs (4 * i + 1)) (xs (4 * i + 2))).1) := w
  refine W.eq (g2 := F0 m 576 ls [.int (h_translate u (xs (4 * i + 1)) (xs (4 * i + 2))).2]) rfl ?_
  refine lv_istore (lv' := [(5, .int (h_translate u (xs (4 * i + 1)) (xs (4 * i + 2))).2), (0, .ref b), (1, .ref (ad 0)), (2, .ref (ad2 0)), (3, .ref oa), (4, .int (nI (4 * i)))]) hx hb d_LAW_576 hl (by decide) rfl (fun ls hl => ?_)
  refine lv_aload_n hx hb d_LAW_578 rfl (lv_at hl 3 rfl) ?_
  refine lv_aload_n hx hb d_LAW_579 rfl (lv_at hl 1 rfl) ?_
  refine lv_iload hx hb d_LAW_580 (lv_at hl 5 rfl) ?_
  refine lv_iconst (v := 1) hx hb d_LAW_582 (by decide) ?_
  refine lv_iadd hx hb d_LAW_583 ?_
  refine l_ld (j := 4 * i + 1) hx hb hX hbl hL w (nI_add (4 * i) 1) (by omega) d_LAW_584 ?_
  refine lv_aload_n hx hb d_LAW_585 rfl (lv_at hl 1 rfl) ?_
  refine lv_iload hx hb d_LAW_586 (lv_at hl 5 rfl) ?_
  refine lv_iconst (v := 2) hx hb d_LAW_588 (by decide) ?_
  refine lv_iadd hx hb d_LAW_589 ?_
  refine l_ld (j := 4 * i + 2) hx hb hX hbl hL w (nI_add (4 * i) 2) (by omega) d_LAW_590 ?_
  refine cVfL (wr := lW E ad oa (h_translate u (xs (4 * i + 1)) (xs (4 * i + 2))).1) (rest := []) hc (fr_swap w) (c_MO_translate l E ad2 τ (xs (4 * i + 1)) (xs (4 * i + 2)) hSp) kv_MO_translate mw_1183 0 rfl rfl ⟨Nat.le_of_ble_eq_true rfl, Nat.le_of_ble_eq_true rfl⟩ hl.1 rfl (Nat.le_of_ble_eq_true rfl) ⟨by show cells + 1 ≤ 601024; omega, by show slots + 6 ≤ 7293034; omega⟩ d_LAW_591 (fun z H locs hz w => ?_)
  subst hz
  have w := fr_swap w
  refine lv_lstore (lv' := [(6, .long (f_MO_translate τ (xs (4 * i + 1)) (xs (4 * i + 2))).2), (5, .int (h_translate u (xs (4 * i + 1)) (xs (4 * i + 2))).2), (0, .ref b), (1, .ref (ad 0)), (2, .ref (ad2 0)), (3, .ref oa), (4, .int (nI (4 * i)))]) hx hb d_LAW_594 hl (by decide) rfl (fun ls hl => ?_)
  refine lv_aload_n hx hb d_LAW_596 rfl (lv_at hl 4 rfl) ?_
  refine cVf (wr := lW E ad oa (h_translate u (xs (4 * i + 1)) (xs (4 * i + 2))).1) (rest := []) hc (fr_swap w) (c_MO_thrown l E ad2 (f_MO_translate τ (xs (4 * i + 1)) (xs (4 * i + 2))).1) kv_MO_thrown mw_963 0 rfl rfl ⟨Nat.le_of_ble_eq_true rfl, Nat.le_of_ble_eq_true rfl⟩ hl.1 rfl (Nat.le_of_ble_eq_true rfl) ⟨by show cells + 1 ≤ 601024; omega, by show slots + 6 ≤ 7293034; omega⟩ d_LAW_597 (fun H locs w => ?_)
  have w := fr_swap w
  have w : Wd xCl E (gA s) s.heap H locs (gW E ad ad2 oa (h_translate u (xs (4 * i + 1)) (xs (4 * i + 2))).1 (f_MO_translate τ (xs (4 * i + 1)) (xs (4 * i + 2))).1) := w
  refine W.eq (g2 := F0 m 600 ls [.int (m_thrown (f_MO_translate τ (xs (4 * i + 1)) (xs (4 * i + 2))).1)]) rfl ?_
  refine lv_iload hx hb d_LAW_600 (lv_at hl 1 rfl) ?_
  refine lv_icmp_eq (tgt := 607) hx hb d_LAW_602 (by decide) (fun q1 => ?_) (fun q1 => absurd hSt q1)
  refine lv_iload hx hb d_LAW_607 (lv_at hl 1 rfl) ?_
  have fin : ∀ (H : Heap) (locs : List Loc) (ls : Array Slot), Wd xCl E (gA s) s.heap H locs (gW E ad ad2 oa (h_translate u (xs (4 * i + 1)) (xs (4 * i + 2))).1 (f_MO_translate τ (xs (4 * i + 1)) (xs (4 * i + 2))).1) → lv_has ls 8 [(6, .long (f_MO_translate τ (xs (4 * i + 1)) (xs (4 * i + 2))).2), (5, .int (h_translate u (xs (4 * i + 1)) (xs (4 * i + 2))).2), (0, .ref b), (1, .ref (ad 0)), (2, .ref (ad2 0)), (3, .ref oa), (4, .int (nI (4 * i)))] → W p l e room_1 s m #[Value.ref b] below meth c H locs (cells + 1) (slots + 6) Q (F0 m 623 ls []) := by
    intro H locs ls w hl
    refine lv_goto (tgt := 695) hx hb d_LAW_623 (by decide) ?_
    exact kk (h_translate u (xs (4 * i + 1)) (xs (4 * i + 2))).1 (f_MO_translate τ (xs (4 * i + 1)) (xs (4 * i + 2))).1 _ _ _ hS2 w (lv_sub hl [2, 3, 4, 5, 6] rfl)
  refine lv_if_ne (tgt := 623) hx hb d_LAW_609 (by decide) (fun q2 => fin _ _ _ w hl) (fun q2 => ?_)
  have hSv := hSo q2
  refine lv_aload_n hx hb d_LAW_612 rfl (lv_at hl 5 rfl) ?_
  refine lv_iconst (v := 0) hx hb d_LAW_613 (by decide) ?_
  refine va_lald (D := E.1) hx hb hc.2.2.2.2.2.2.2.1 w.1 10 2 (cA := E.2.1.2.2) (n := 1) (f := (h_translate u (xs (4 * i + 1)) (xs (4 * i + 2))).1.2) rfl rfl (by unfold vp_in; decide) d_LAW_614 ?_
  refine lv_lload hx hb d_LAW_615 (lv_at hl 0 rfl) ?_
  refine W.lcmp hx hb d_LAW_617 ?_
  exact lv_if_eq (tgt := 623) hx hb d_LAW_618 (by decide) (fun q3 => fin _ _ _ w hl) (fun q3 => absurd (lg_eq0 hSv) q3)
set_option maxHeartbeats 4000000 in
set_option maxRecDepth 100000 in
theorem lawc_handler (hfl : l.flags = flags0) (hc : Cx xCl E (gA s) p s m #[Value.ref b] meth c code 8 ret "PageMachineLaw") (hth : thF sa xstrs (gA s) s s.heap) (hX : va_X b L xs s s.heap) (hbl : b < s.heap.size) (hL : L ≤ 2048) (hi : 4 * i + 4 ≤ L) (hS : Sm_handler Rel) (hR : Rel u.1 τ) (w : Wd xCl E (gA s) s.heap H locs (gW E ad ad2 oa u τ)) (hl : lv_has ls 8 (gL b ad ad2 oa i)) (hf : cells + 1 ≤ 601024 ∧ slots + 6 ≤ 7293034)
    (kk : ∀ (u : LuS) (τ : MS) (H : Heap) (locs : List Loc) (ls : Array Slot), Rel u.1 τ → Wd xCl E (gA s) s.heap H locs (gW E ad ad2 oa u τ) → lv_has ls 8 (gL b ad ad2 oa i) → W p l e room_1 s m #[Value.ref b] below meth c H locs (cells + 1) (slots + 6) Q (F0 m 695 ls [])) : W p l e room_1 s m #[Value.ref b] below meth c H locs cells slots Q (F0 m 626 ls []) := by
  have hx := hc.1
  have hb := hc.2.1
  have hl : lv_has ls 8 [(0, .ref b), (1, .ref (ad 0)), (2, .ref (ad2 0)), (3, .ref oa), (4, .int (nI (4 * i)))] := hl
  obtain ⟨hS1, hS2⟩ := hS u.1 τ hR
  refine lv_aload_n hx hb d_LAW_626 rfl (lv_at hl 1 rfl) ?_
  have w : Wd xCl E (gA s) s.heap H locs ((mW E ad2 τ ++ oC E oa u.2) ++ xW E ad u.1) := by rw [List.append_assoc]; exact w
  refine cVfI (wr := mW E ad2 τ ++ oC E oa u.2) (rest := []) hc w (c_PM_handler l E ad u.1) kv_PM_handler mw_257 0 rfl rfl ⟨Nat.le_of_ble_eq_true rfl, Nat.le_of_ble_eq_true rfl⟩ hl.1 rfl (Nat.le_of_ble_eq_true rfl) ⟨by show cells ≤ 601024; omega, by show slots ≤ 7293034; omega⟩ d_LAW_627 (fun z H locs hz w => ?_)
  subst hz
  have w : Wd xCl E (gA s) s.heap H locs (mW E ad2 τ ++ lW E ad oa ((f_PM_handler u.1).1, u.2)) := by rw [← List.append_assoc]; exact w
  refine lv_aload_n hx hb d_LAW_630 rfl (lv_at hl 2 rfl) ?_
  refine cVfI (wr := lW E ad oa ((f_PM_handler u.1).1, u.2)) (rest := [.int (f_PM_handler u.1).2]) hc (fr_swap w) (c_MO_handler l E ad2 τ) kv_MO_handler mw_1188 0 rfl rfl ⟨Nat.le_of_ble_eq_true rfl, Nat.le_of_ble_eq_true rfl⟩ hl.1 rfl (Nat.le_of_ble_eq_true rfl) ⟨by show cells ≤ 601024; omega, by show slots ≤ 7293034; omega⟩ d_LAW_631 (fun z H locs hz w => ?_)
  subst hz
  have w := fr_swap w
  refine lv_icmp_eq (tgt := 695) hx hb d_LAW_634 (by decide) (fun q => ?_) (fun q => absurd hS1 q)
  refine W.widen (k := cells + 1) (n := slots + 6) (by omega) (by omega) ?_
  exact kk ((f_PM_handler u.1).1, u.2) _ _ _ _ hS2 w hl
set_option maxHeartbeats 4000000 in
set_option maxRecDepth 100000 in
theorem lawc_count (hfl : l.flags = flags0) (hc : Cx xCl E (gA s) p s m #[Value.ref b] meth c code 8 ret "PageMachineLaw") (hth : thF sa xstrs (gA s) s s.heap) (hX : va_X b L xs s s.heap) (hbl : b < s.heap.size) (hL : L ≤ 2048) (hi : 4 * i + 4 ≤ L) (hS : Sm_count Rel) (hR : Rel u.1 τ) (w : Wd xCl E (gA s) s.heap H locs (gW E ad ad2 oa u τ)) (hl : lv_has ls 8 (gL b ad ad2 oa i)) (hf : cells + 1 ≤ 601024 ∧ slots + 6 ≤ 7293034)
    (kk : ∀ (u : LuS) (τ : MS) (H : Heap) (locs : List Loc) (ls : Array Slot), Rel u.1 τ → Wd xCl E (gA s) s.heap H locs (gW E ad ad2 oa u τ) → lv_has ls 8 (gL b ad ad2 oa i) → W p l e room_1 s m #[Value.ref b] below meth c H locs (cells + 1) (slots + 6) Q (F0 m 695 ls [])) : W p l e room_1 s m #[Value.ref b] below meth c H locs cells slots Q (F0 m 639 ls []) := by
  have hx := hc.1
  have hb := hc.2.1
  have hl : lv_has ls 8 [(0, .ref b), (1, .ref (ad 0)), (2, .ref (ad2 0)), (3, .ref oa), (4, .int (nI (4 * i)))] := hl
  obtain ⟨hSp, hSt, hSo, hS2⟩ := hS u τ (xs (4 * i + 1)) hR
  refine lv_aload_n hx hb d_LAW_639 rfl (lv_at hl 1 rfl) ?_
  refine lv_aload_n hx hb d_LAW_640 rfl (lv_at hl 0 rfl) ?_
  refine lv_iload hx hb d_LAW_641 (lv_at hl 4 rfl) ?_
  refine lv_iconst (v := 1) hx hb d_LAW_643 (by decide) ?_
  refine lv_iadd hx hb d_LAW_644 ?_
  refine l_ld (j := 4 * i + 1) hx hb hX hbl hL w (nI_add (4 * i) 1) (by omega) d_LAW_645 ?_
  refine lv_aload_n hx hb d_LAW_646 rfl (lv_at hl 3 rfl) ?_
  refine h_cS (wr := mW E ad2 τ) (rest := []) hc hth w (c_LW_count l hfl E sa ad oa u (xs (4 * i + 1))) kw_count mw_861 ⟨Nat.le_of_ble_eq_true rfl, Nat.le_of_ble_eq_true rfl⟩ hl.1 rfl (Nat.le_of_ble_eq_true rfl) hf d_LAW_647 (fun H locs w => ?_)
  have w : Wd xCl E (gA s) s.heap H locs (mW E ad2 τ ++ lW E ad oa (h_count u (xs (4 * i + 1))).1) := w
  refine W.eq (g2 := F0 m 650 ls [.int (h_count u (xs (4 * i + 1))).2]) rfl ?_
  refine lv_istore (lv' := [(5, .int (h_count u (xs (4 * i + 1))).2), (0, .ref b), (1, .ref (ad 0)), (2, .ref (ad2 0)), (3, .ref oa), (4, .int (nI (4 * i)))]) hx hb d_LAW_650 hl (by decide) rfl (fun ls hl => ?_)
  refine lv_aload_n hx hb d_LAW_652 rfl (lv_at hl 3 rfl) ?_
  refine lv_aload_n hx hb d_LAW_653 rfl (lv_at hl 1 rfl) ?_
  refine lv_iload hx hb d_LAW_654 (lv_at hl 5 rfl) ?_
  refine lv_iconst (v := 1) hx hb d_LAW_656 (by decide) ?_
  refine lv_iadd hx hb d_LAW_657 ?_
  refine l_ld (j := 4 * i + 1) hx hb hX hbl hL w (nI_add (4 * i) 1) (by omega) d_LAW_658 ?_
  refine cVfI (wr := lW E ad oa (h_count u (xs (4 * i + 1))).1) (rest := []) hc (fr_swap w) (c_MO_count l E ad2 τ (xs (4 * i + 1)) hSp) kv_MO_count mw_1199 0 rfl rfl ⟨Nat.le_of_ble_eq_true rfl, Nat.le_of_ble_eq_true rfl⟩ hl.1 rfl (Nat.le_of_ble_eq_true rfl) ⟨by show cells + 1 ≤ 601024; omega, by show slots + 6 ≤ 7293034; omega⟩ d_LAW_659 (fun z H locs hz w => ?_)
  subst hz
  have w := fr_swap w
  refine lv_istore (lv' := [(6, .int (f_MO_count τ (xs (4 * i + 1))).2), (5, .int (h_count u (xs (4 * i + 1))).2), (0, .ref b), (1, .ref (ad 0)), (2, .ref (ad2 0)), (3, .ref oa), (4, .int (nI (4 * i)))]) hx hb d_LAW_662 hl (by decide) rfl (fun ls hl => ?_)
  refine lv_aload_n hx hb d_LAW_664 rfl (lv_at hl 4 rfl) ?_
  refine cVf (wr := lW E ad oa (h_count u (xs (4 * i + 1))).1) (rest := []) hc (fr_swap w) (c_MO_thrown l E ad2 (f_MO_count τ (xs (4 * i + 1))).1) kv_MO_thrown mw_963 0 rfl rfl ⟨Nat.le_of_ble_eq_true rfl, Nat.le_of_ble_eq_true rfl⟩ hl.1 rfl (Nat.le_of_ble_eq_true rfl) ⟨by show cells + 1 ≤ 601024; omega, by show slots + 6 ≤ 7293034; omega⟩ d_LAW_665 (fun H locs w => ?_)
  have w := fr_swap w
  have w : Wd xCl E (gA s) s.heap H locs (gW E ad ad2 oa (h_count u (xs (4 * i + 1))).1 (f_MO_count τ (xs (4 * i + 1))).1) := w
  refine W.eq (g2 := F0 m 668 ls [.int (m_thrown (f_MO_count τ (xs (4 * i + 1))).1)]) rfl ?_
  refine lv_iload hx hb d_LAW_668 (lv_at hl 1 rfl) ?_
  refine lv_icmp_eq (tgt := 675) hx hb d_LAW_670 (by decide) (fun q1 => ?_) (fun q1 => absurd hSt q1)
  refine lv_iload hx hb d_LAW_675 (lv_at hl 1 rfl) ?_
  have fin : ∀ (H : Heap) (locs : List Loc) (ls : Array Slot), Wd xCl E (gA s) s.heap H locs (gW E ad ad2 oa (h_count u (xs (4 * i + 1))).1 (f_MO_count τ (xs (4 * i + 1))).1) → lv_has ls 8 [(6, .int (f_MO_count τ (xs (4 * i + 1))).2), (5, .int (h_count u (xs (4 * i + 1))).2), (0, .ref b), (1, .ref (ad 0)), (2, .ref (ad2 0)), (3, .ref oa), (4, .int (nI (4 * i)))] → W p l e room_1 s m #[Value.ref b] below meth c H locs (cells + 1) (slots + 6) Q (F0 m 692 ls []) := by
    intro H locs ls w hl
    refine lv_goto (tgt := 695) hx hb d_LAW_692 (by decide) ?_
    exact kk (h_count u (xs (4 * i + 1))).1 (f_MO_count τ (xs (4 * i + 1))).1 _ _ _ hS2 w (lv_sub hl [2, 3, 4, 5, 6] rfl)
  refine lv_if_ne (tgt := 692) hx hb d_LAW_677 (by decide) (fun q2 => fin _ _ _ w hl) (fun q2 => ?_)
  have hSv := hSo q2
  refine lv_aload_n hx hb d_LAW_680 rfl (lv_at hl 5 rfl) ?_
  refine lv_iconst (v := 0) hx hb d_LAW_681 (by decide) ?_
  refine va_lald (D := E.1) hx hb hc.2.2.2.2.2.2.2.1 w.1 10 2 (cA := E.2.1.2.2) (n := 1) (f := (h_count u (xs (4 * i + 1))).1.2) rfl rfl (by unfold vp_in; decide) d_LAW_682 ?_
  refine lv_iload hx hb d_LAW_683 (lv_at hl 0 rfl) ?_
  refine lv_i2l hx hb d_LAW_685 rfl ?_
  refine W.lcmp hx hb d_LAW_686 ?_
  exact lv_if_eq (tgt := 692) hx hb d_LAW_687 (by decide) (fun q3 => fin _ _ _ w hl) (fun q3 => absurd (lg_eq0 hSv) q3)
end LAWC
