def SIMs (Rel : XS → MS → Prop) : Prop := Sm_poke Rel ∧ Sm_peek Rel ∧ Sm_set Rel ∧ Sm_get Rel ∧ Sm_line Rel ∧ Sm_step Rel ∧ Sm_entry Rel ∧ Sm_translate Rel ∧ Sm_handler Rel ∧ Sm_count Rel
theorem hd_gt {i L : Nat} (hL : L ≤ 2048) (hi : 4 * i ≤ L + 4) : (Int32.ofNat L - 4 < nI (4 * i)) ↔ ¬ 4 * i + 4 ≤ L := by
  have e1 : (Int32.ofNat L - 4).toInt = (L : Int) - 4 := pk_sub_toInt (a := L) (b := 4) (by omega) (by decide)
  rw [Int32.lt_iff_toInt_lt, e1, nI_toInt (by omega)]
  omega
section LAWL
variable {p : Program} {l : Launch} {e : Env} {s : State} {m : MethodId} {below : List Frame} {meth : Method} {c : Code} {b L : Nat} {xs : Nat → Int32} {E : Ev} {sa : Nat → Nat} {ad ad2 : Nat → Nat} {oa : Nat} {Rel : XS → MS → Prop}
set_option maxHeartbeats 4000000 in
set_option maxRecDepth 100000 in
theorem law_loop (hfl : l.flags = flags0) (hc : Cx xCl E (gA s) p s m #[Value.ref b] meth c code 8 ret "PageMachineLaw") (hth : thF sa xstrs (gA s) s s.heap) (hX : va_X b L xs s s.heap) (hbl : b < s.heap.size) (hL : L ≤ 2048) (hS : SIMs Rel) :
    ∀ (n i : Nat) (u : LuS) (τ : MS) (H : Heap) (locs : List Loc) (ls : Array Slot) (cells slots : Nat), L < 4 * i + 4 * n → 4 * i ≤ L + 4 → cells ≤ 40 + i → slots ≤ 140000 + 6 * i → Rel u.1 τ → Wd xCl E (gA s) s.heap H locs (gW E ad ad2 oa u τ) → lv_has ls 8 (gL b ad ad2 oa i) →
      W p l e room_1 s m #[Value.ref b] below meth c H locs cells slots (lw_Z below #[Value.ref b] s) (F0 m 23 ls []) := by
  have hx := hc.1
  have hb := hc.2.1
  obtain ⟨s0, s1, s2, s3, s4, s5, s6, s7, s8, s9⟩ := hS
  intro n
  induction n with
  | zero =>
    intro i u τ H locs ls cells slots h1 h2 h3 h4 hR w hl
    have hl : lv_has ls 8 [(0, .ref b), (1, .ref (ad 0)), (2, .ref (ad2 0)), (3, .ref oa), (4, .int (nI (4 * i)))] := hl
    refine lv_iload hx hb d_LAW_23 (lv_at hl 4 rfl) ?_
    refine lv_aload_n hx hb d_LAW_25 rfl (lv_at hl 0 rfl) ?_
    refine va_slen hx hb hX hbl (Nat.not_le.mpr hbl) w.2.2.1 d_LAW_26 ?_
    refine lv_iconst (v := 4) hx hb d_LAW_27 (by decide) ?_
    refine lv_isub hx hb d_LAW_28 ?_
    refine lv_icmp_gt (tgt := 701) hx hb d_LAW_29 (by decide) (fun q => ?_) (fun q => absurd ((hd_gt hL h2).mpr (by omega)) q)
    refine lv_iconst (v := 1) hx hb d_LAW_701 (by decide) ?_
    refine va_forget w.2.2.1.2.2 ?_
    refine W.widen (k := 601024) (n := 7293034) (by omega) (by omega) ?_
    exact lw_ret hx hb hc.2.2.2.1 hc.2.2.2.2.1 d_LAW_702
  | succ n ih =>
    intro i u τ H locs ls cells slots h1 h2 h3 h4 hR w hl
    have hl : lv_has ls 8 [(0, .ref b), (1, .ref (ad 0)), (2, .ref (ad2 0)), (3, .ref oa), (4, .int (nI (4 * i)))] := hl
    refine lv_iload hx hb d_LAW_23 (lv_at hl 4 rfl) ?_
    refine lv_aload_n hx hb d_LAW_25 rfl (lv_at hl 0 rfl) ?_
    refine va_slen hx hb hX hbl (Nat.not_le.mpr hbl) w.2.2.1 d_LAW_26 ?_
    refine lv_iconst (v := 4) hx hb d_LAW_27 (by decide) ?_
    refine lv_isub hx hb d_LAW_28 ?_
    refine lv_icmp_gt (tgt := 701) hx hb d_LAW_29 (by decide) (fun q => ?_) (fun q => ?_)
    · refine lv_iconst (v := 1) hx hb d_LAW_701 (by decide) ?_
      refine va_forget w.2.2.1.2.2 ?_
      have := (hd_gt hL h2).mp q
      refine W.widen (k := 601024) (n := 7293034) (by omega) (by omega) ?_
      exact lw_ret hx hb hc.2.2.2.1 hc.2.2.2.2.1 d_LAW_702
    · have hi : 4 * i + 4 ≤ L := by
        by_cases h : 4 * i + 4 ≤ L
        · exact h
        · exact absurd ((hd_gt hL h2).mpr h) q
      have tail : ∀ (u : LuS) (τ : MS) (H : Heap) (locs : List Loc) (ls : Array Slot), Rel u.1 τ → Wd xCl E (gA s) s.heap H locs (gW E ad ad2 oa u τ) → lv_has ls 8 (gL b ad ad2 oa i) → W p l e room_1 s m #[Value.ref b] below meth c H locs (cells + 1) (slots + 6) (lw_Z below #[Value.ref b] s) (F0 m 695 ls []) := by
        intro u τ H locs ls hR w hl
        have hl : lv_has ls 8 [(0, .ref b), (1, .ref (ad 0)), (2, .ref (ad2 0)), (3, .ref oa), (4, .int (nI (4 * i)))] := hl
        refine lv_iinc (v := nI (4 * (i + 1))) (lv' := [(4, .int (nI (4 * (i + 1)))), (0, .ref b), (1, .ref (ad 0)), (2, .ref (ad2 0)), (3, .ref oa)]) hx hb d_LAW_695 hl (k := 4) rfl (nI_add (4 * i) 4) (by decide) rfl (fun ls hl => ?_)
        refine lv_goto (tgt := 23) hx hb d_LAW_698 (by decide) ?_
        exact ih (i + 1) u τ H locs ls (cells + 1) (slots + 6) (by omega) (by omega) (by omega) (by omega) hR w (lv_sub hl [1, 2, 3, 4, 0] rfl)
      have hf : cells + 1 ≤ 601024 ∧ slots + 6 ≤ 7293034 := ⟨by omega, by omega⟩
      refine lv_aload_n hx hb d_LAW_32 rfl (lv_at hl 0 rfl) ?_
      refine lv_iload hx hb d_LAW_33 (lv_at hl 4 rfl) ?_
      refine l_ld (j := 4 * i) hx hb hX hbl hL w rfl (by omega) d_LAW_35 ?_
      refine lv_bipush (v := 15) hx hb d_LAW_36 (by decide) ?_
      refine lv_iand hx hb d_LAW_38 ?_
      refine lv_topi (fun k hk => ?_)
      by_cases c0 : k = 0
      · refine lv_tableIn (tgt := 92) (off := 53) hx hb d_LAW_39 (by rw [c0]; decide) (by rw [c0]; decide) (by rw [c0]; rfl) (by decide) ?_
        exact lawc_poke hfl hc hth hX hbl hL hi s0 hR w hl hf tail
      by_cases c1 : k = 1
      · refine lv_tableIn (tgt := 160) (off := 121) hx hb d_LAW_39 (by rw [c1]; decide) (by rw [c1]; decide) (by rw [c1]; rfl) (by decide) ?_
        exact lawc_peek hfl hc hth hX hbl hL hi s1 hR w hl hf tail
      by_cases c2 : k = 2
      · refine lv_tableIn (tgt := 216) (off := 177) hx hb d_LAW_39 (by rw [c2]; decide) (by rw [c2]; decide) (by rw [c2]; rfl) (by decide) ?_
        exact lawc_set hfl hc hth hX hbl hL hi s2 hR w hl hf tail
      by_cases c3 : k = 3
      · refine lv_tableIn (tgt := 276) (off := 237) hx hb d_LAW_39 (by rw [c3]; decide) (by rw [c3]; decide) (by rw [c3]; rfl) (by decide) ?_
        exact lawc_get hfl hc hth hX hbl hL hi s3 hR w hl hf tail
      by_cases c4 : k = 4
      · refine lv_tableIn (tgt := 344) (off := 305) hx hb d_LAW_39 (by rw [c4]; decide) (by rw [c4]; decide) (by rw [c4]; rfl) (by decide) ?_
        exact lawc_line hfl hc hth hX hbl hL hi s4 hR w hl hf tail
      by_cases c5 : k = 5
      · refine lv_tableIn (tgt := 435) (off := 396) hx hb d_LAW_39 (by rw [c5]; decide) (by rw [c5]; decide) (by rw [c5]; rfl) (by decide) ?_
        exact lawc_step hfl hc hth hX hbl hL hi s5 hR w hl hf tail
      by_cases c6 : k = 6
      · refine lv_tableIn (tgt := 491) (off := 452) hx hb d_LAW_39 (by rw [c6]; decide) (by rw [c6]; decide) (by rw [c6]; rfl) (by decide) ?_
        exact lawc_entry hfl hc hth hX hbl hL hi s6 hR w hl hf tail
      by_cases c7 : k = 7
      · refine lv_tableIn (tgt := 559) (off := 520) hx hb d_LAW_39 (by rw [c7]; decide) (by rw [c7]; decide) (by rw [c7]; rfl) (by decide) ?_
        exact lawc_translate hfl hc hth hX hbl hL hi s7 hR w hl hf tail
      by_cases c8 : k = 8
      · refine lv_tableIn (tgt := 626) (off := 587) hx hb d_LAW_39 (by rw [c8]; decide) (by rw [c8]; decide) (by rw [c8]; rfl) (by decide) ?_
        exact lawc_handler hfl hc hth hX hbl hL hi s8 hR w hl hf tail
      by_cases c9 : k = 9
      · refine lv_tableIn (tgt := 639) (off := 600) hx hb d_LAW_39 (by rw [c9]; decide) (by rw [c9]; decide) (by rw [c9]; rfl) (by decide) ?_
        exact lawc_count hfl hc hth hX hbl hL hi s9 hR w hl hf tail
      refine lv_tableOut (tgt := 695) hx hb d_LAW_39 (by
        have k0 := ne_k c0 (n := 0) (by decide)
        have k1 := ne_k c1 (n := 1) (by decide)
        have k2 := ne_k c2 (n := 2) (by decide)
        have k3 := ne_k c3 (n := 3) (by decide)
        have k4 := ne_k c4 (n := 4) (by decide)
        have k5 := ne_k c5 (n := 5) (by decide)
        have k6 := ne_k c6 (n := 6) (by decide)
        have k7 := ne_k c7 (n := 7) (by decide)
        have k8 := ne_k c8 (n := 8) (by decide)
        have k9 := ne_k c9 (n := 9) (by decide)
        omega) (by decide) ?_
      refine W.widen (k := cells + 1) (n := slots + 6) (by omega) (by omega) ?_
      exact tail u τ H locs ls hR w hl
end LAWL
