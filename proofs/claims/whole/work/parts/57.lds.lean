section LDS
variable {σ : XS} {τ : MS}
theorem R1_asked (h : R1 σ τ) (a : Int32) : R1 (xs_asked σ a) τ := ⟨T_asked h.1 a, h.2⟩
theorem ng (c : Int32) (hc : c = 1 ∨ c = 2 ∨ c = 3 ∨ c = 4 ∨ c = 5 ∨ c = 6 ∨ c = 7 ∨ c = 18 ∨ c = 19) : (¬ 0 ≤ lg_cmp (Int32.toInt64 (-1 - c)) 0) ∧ ∀ σ, f_AS_faultIn σ (Int32.toInt64 (-1 - c)) = c := by
  unfold f_AS_faultIn
  rcases hc with rfl | rfl | rfl | rfl | rfl | rfl | rfl | rfl | rfl
  all_goals exact ⟨by decide, fun _ => by decide⟩
def Aok (σ : XS) (τ : MS) (a : Int32) (B : Nat) (z : XS × Int64) (y : MS × Int64) : Prop :=
  (∃ p : Nat, p < 262144 ∧ p % B = 0 ∧ z = (xs_asked σ a, lN p) ∧ y = (τ, lN p)) ∨
  (∃ r : Int32, z.1 = xs_asked σ a ∧ (¬ 0 ≤ lg_cmp z.2 0) ∧ f_AS_faultIn z.1 z.2 = r ∧ Fa r a y.1 ∧ Rel σ y.1)
theorem wr_rel (h : Rel σ τ) (c a : Int32) : Rel σ (f_MO_wrong τ c a).1 := T_refills (T_hasAddress (T_faultAt (T_fault h c) a) true) false
theorem wr_fa (τ : MS) (c a : Int32) (hc : c = 1 ∨ c = 2 ∨ c = 3 ∨ c = 4 ∨ c = 5) : Fa c a (f_MO_wrong τ c a).1 := Or.inr (Or.inr (Or.inl ⟨rfl, rfl, rfl, rfl, hc⟩))
def HB (b m : Int32) (B : Nat) : Prop := (b = 1 ∧ m = 0 ∧ B = 1) ∨ (b = 2 ∧ m = 1 ∧ B = 2) ∨ (b = 4 ∧ m = 3 ∧ B = 4)
theorem al_ag0 (h : Rel σ τ) (h1 : m_hasAddress τ = false) (h2 : m_refills τ = false) (a : Int32) {w f : Bool} {how : Int32} (hw : HW w f how) {b m : Int32} {B : Nat} (hb : HB b m B) : P_MO_aligned τ a b w f ∧ Aok σ τ a B (f_AS_locateAligned σ a how m) (f_MO_aligned τ a b w f) := by
  have hbm : b - 1 = m := by rcases hb with ⟨rfl, rfl, rfl⟩ | ⟨rfl, rfl, rfl⟩ | ⟨rfl, rfl, rfl⟩ <;> decide
  unfold f_AS_locateAligned f_AS_locateAligned_c1 f_MO_aligned P_MO_aligned
  rw [hbm]
  by_cases hz : a &&& m = 0
  · have hl := loc_ag (T_asked h a) a hw
    have hB : a.toBitVec.toNat % B = 0 ∧ 4096 % B = 0 := by
      rcases hb with ⟨rfl, rfl, rfl⟩ | ⟨rfl, rfl, rfl⟩ | ⟨rfl, rfl, rfl⟩
      · exact ⟨Nat.mod_one _, by decide⟩
      · rw [pk_and a 1 (by decide), ← nI_0, nI_eq (by omega) (by omega)] at hz
        exact ⟨hz, by decide⟩
      · rw [pk_and a 2 (by decide), ← nI_0, nI_eq (by omega) (by omega)] at hz
        exact ⟨hz, by decide⟩
    rw [if_pos hz, if_pos hz]
    refine ⟨⟨fun _ => ⟨hl.1, trivial⟩, fun q => absurd hz q⟩, ?_⟩
    unfold f_MO_aligned_c1
    rcases hl.2 with ⟨p, hp, hpa, e1, e2⟩ | ⟨c, hc, e1, e2⟩ | ⟨c, hc, e1, e2⟩ | ⟨c, hc, e1, e2⟩
    · rw [e1, e2]
      refine Or.inl ⟨p, hp, ?_, rfl, rfl⟩
      have q1 : p % 4096 % B = p % B := Nat.mod_mod_of_dvd p (Nat.dvd_of_mod_eq_zero hB.2)
      have q2 : a.toBitVec.toNat % 4096 % B = a.toBitVec.toNat % B := Nat.mod_mod_of_dvd _ (Nat.dvd_of_mod_eq_zero hB.2)
      rw [← q1, hpa, q2, hB.1]
    · rw [e1, e2]
      have hn := ng c (by rcases hc with rfl | rfl <;> decide)
      refine Or.inr ⟨c, rfl, hn.1, hn.2 _, Or.inl ⟨h1, h2, rfl, ?_⟩, T_fault h c⟩
      rcases hc with rfl | rfl <;> decide
    · rw [e1, e2]
      have hn := ng c (by rcases hc with rfl | rfl | rfl | rfl | rfl <;> decide)
      exact Or.inr ⟨c, rfl, hn.1, hn.2 _, wr_fa τ c a hc, wr_rel h c a⟩
    · rw [e1, e2]
      have hn := ng (c + 16) (by rcases hc with rfl | rfl <;> decide)
      refine Or.inr ⟨c + 16, rfl, hn.1, hn.2 _, Or.inr (Or.inr (Or.inr ⟨rfl, rfl, rfl, ?_⟩)), T_refills (wr_rel h c a) true⟩
      rcases hc with rfl | rfl
      · exact Or.inl ⟨by decide, rfl⟩
      · exact Or.inr ⟨by decide, rfl⟩
  · rw [if_neg hz, if_neg hz]
    refine ⟨⟨fun q => absurd q hz, fun _ => ⟨fun _ => trivial, fun _ => trivial⟩⟩, ?_⟩
    unfold f_AS_locateAligned_21 f_MO_aligned_18 f_MO_aligned_c2 f_AS_faulty
    have h4 := ng 4 (by decide)
    have h5 := ng 5 (by decide)
    rcases hw with ⟨rfl, rfl, rfl⟩ | ⟨rfl, rfl, rfl⟩ | ⟨rfl, rfl, rfl⟩
    · rw [if_neg (show ¬ (0 : Int32) = 1 by decide), if_pos (show zb false = 0 by decide)]
      exact Or.inr ⟨4, rfl, h4.1, h4.2 _, wr_fa τ 4 a (by decide), wr_rel h 4 a⟩
    · rw [if_pos (show (1 : Int32) = 1 by decide), if_neg (show ¬ zb true = 0 by decide)]
      exact Or.inr ⟨5, rfl, h5.1, h5.2 _, wr_fa τ 5 a (by decide), wr_rel h 5 a⟩
    · rw [if_neg (show ¬ (2 : Int32) = 1 by decide), if_pos (show zb false = 0 by decide)]
      exact Or.inr ⟨4, rfl, h4.1, h4.2 _, wr_fa τ 4 a (by decide), wr_rel h 4 a⟩
theorem al_ag (h : R1 σ τ) (a : Int32) {w f : Bool} {how : Int32} (hw : HW w f how) {b m : Int32} {B : Nat} (hb : HB b m B) : P_MO_aligned τ a b w f ∧ Aok σ τ a B (f_AS_locateAligned σ a how m) (f_MO_aligned τ a b w f) := al_ag0 h.1 h.2.2.2.2.1 h.2.2.2.2.2.1 a hw hb
theorem Fa_pos {r a : Int32} (h : Fa r a τ) : (¬ m_fault τ < 0) ∧ ¬ r = -1 := by
  rcases h with ⟨_, _, e, hr⟩ | ⟨_, _, e, hr⟩ | ⟨_, _, _, e, hr⟩ | ⟨_, _, _, hr⟩
  · rw [← e]
    rcases hr with rfl | rfl | rfl | rfl | rfl | rfl | rfl | rfl <;> decide
  · rw [e]
    rcases hr with ⟨rfl, _⟩ | ⟨rfl, _⟩ | ⟨rfl, _⟩ | ⟨rfl, _⟩ <;> decide
  · rw [← e]
    rcases hr with rfl | rfl | rfl | rfl | rfl <;> decide
  · rcases hr with ⟨rfl, e⟩ | ⟨rfl, e⟩
    · rw [e]
      decide
    · rw [e]
      decide
theorem mem_ag (h : R1 σ τ) {op rt a : Int32} {w part : Bool} {how : Int32} (hw : HW w false how) {b m : Int32} {B : Nat} (hb : HB b m B) (C : XS × Int64 → XS × Int32) (hCf : ∀ z, ¬ 0 ≤ lg_cmp z.2 0 → C z = (z.1, f_AS_faultIn z.1 z.2))
    (hok : ∀ p : Nat, p < 262144 → p % B = 0 → P_MO_memories_c2 (τ, lN p) op rt a b part w ∧ Post (C (xs_asked σ a, lN p)) (f_MO_memories_c2 (τ, lN p) op rt a b part w)) :
    P_MO_memories_159 τ op rt a part w b ∧ Post (C (f_AS_locateAligned σ a how m)) (f_MO_memories_159 τ op rt a part w b) := by
  have hal := al_ag h a hw hb
  unfold P_MO_memories_159 f_MO_memories_159
  rcases hal.2 with ⟨p, hp, hpB, e1, e2⟩ | ⟨r, e1, e2, e3, e4, e5⟩
  · have h2 := hok p hp hpB
    rw [e2, e1]
    exact ⟨⟨hal.1, h2.1⟩, h2.2⟩
  · have hpos := Fa_pos e4
    refine ⟨⟨hal.1, ?_⟩, ?_⟩
    · exact ⟨fun q => absurd q hpos.1, fun _ => trivial⟩
    · rw [hCf _ e2, e3]
      unfold f_MO_memories_c2
      rw [if_neg hpos.1]
      refine Or.inr ⟨?_, ?_⟩
      · rw [e1]
        exact T_asked e5 a
      · rw [e1]
        exact e4
theorem me_row (σ : XS) {p : Nat} (hp : p < 262144) : f_ME_rowOf σ (nI p) = nI (p / 4) := by
  unfold f_ME_rowOf
  rw [pk_andN (by omega) (m := 262143) 18 (by decide), Nat.mod_eq_of_lt (by omega), pk_ushrN (by omega) 2 2 (by decide)]
theorem wordAt_ag (h : Rel σ τ) {p : Nat} (hp : p < 262144) : f_ME_wordAt σ (nI p) = m_memory τ (p / 4) := by
  unfold f_ME_wordAt
  rw [me_row σ hp, nI_clamp (by omega), R_words h]
theorem d4 {p : Nat} (hp : p < 262144) : nI p / (4 : Int32) = nI (p / 4) := pk_div (d := 4) (by omega) (by omega) (by omega)
theorem m4 {p : Nat} (hp : p < 262144) : nI p - nI p / (4 : Int32) * (4 : Int32) = nI (p % 4) := pk_rem (d := 4) (by omega) (by omega) (by omega)
theorem a3 {p : Nat} (hp : p < 262144) : nI p &&& (3 : Int32) = nI (p % 4) := pk_andN (by omega) (m := 3) 2 (by decide)
theorem Pbytes (τ : MS) {p : Nat} (hp : p < 262144) (n : Int32) : P_MO_bytesAt τ (lN p) n := by
  unfold P_MO_bytesAt
  rw [lN_i, d4 hp]
  exact ⟨nI_in (by omega) (by omega), fun _ => trivial, fun _ => trivial⟩
theorem Pstore (τ : MS) {p : Nat} (hp : p < 262144) (n v : Int32) : P_MO_store τ (lN p) n v := by
  unfold P_MO_store P_MO_store_39
  rw [lN_i, d4 hp]
  exact ⟨fun _ => ⟨nI_in (by omega) (by omega), nI_in (by omega) (by omega), trivial⟩, fun _ => ⟨nI_in (by omega) (by omega), nI_in (by omega) (by omega), trivial⟩⟩
theorem bytes4 (τ : MS) {p : Nat} (hp : p < 262144) : f_MO_bytesAt τ (lN p) 4 = m_memory τ (p / 4) := by
  unfold f_MO_bytesAt
  rw [if_pos rfl, lN_i, d4 hp, nI_clamp (by omega)]
theorem bytesN (τ : MS) {p : Nat} (hp : p < 262144) {n : Int32} (hn : ¬ n = 4) : f_MO_bytesAt τ (lN p) n = (m_memory τ (p / 4) >>> (((8 : Int32) * (((4 : Int32) - n) - nI (p % 4))) &&& 31)) &&& (((1 : Int32) <<< (((8 : Int32) * n) &&& 31)) - (1 : Int32)) := by
  unfold f_MO_bytesAt
  rw [if_neg hn, lN_i, m4 hp, d4 hp, nI_clamp (by omega)]
theorem store4 (τ : MS) {p : Nat} (hp : p < 262144) (v : Int32) : f_MO_store τ (lN p) 4 v = ms_memory τ (upd (m_memory τ) (p / 4) ((m_memory τ (p / 4) &&& ((-1 : Int32) ^^^ (-1 : Int32))) ||| ((v <<< (((8 : Int32) * (((4 : Int32) - (4 : Int32)) - nI (p % 4))) &&& 31)) &&& (-1 : Int32)))) := by
  unfold f_MO_store f_MO_store_39 f_MO_store_c1
  rw [if_pos rfl, lN_i, m4 hp, d4 hp, nI_clamp (by omega)]
theorem storeN (τ : MS) {p : Nat} (hp : p < 262144) {n : Int32} (hn : ¬ n = 4) (v : Int32) : f_MO_store τ (lN p) n v = ms_memory τ (upd (m_memory τ) (p / 4) ((m_memory τ (p / 4) &&& (((((1 : Int32) <<< (((8 : Int32) * n) &&& 31)) - (1 : Int32)) <<< (((8 : Int32) * (((4 : Int32) - n) - nI (p % 4))) &&& 31)) ^^^ (-1 : Int32))) ||| ((v <<< (((8 : Int32) * (((4 : Int32) - n) - nI (p % 4))) &&& 31)) &&& ((((1 : Int32) <<< (((8 : Int32) * n) &&& 31)) - (1 : Int32)) <<< (((8 : Int32) * (((4 : Int32) - n) - nI (p % 4))) &&& 31))))) := by
  unfold f_MO_store f_MO_store_39 f_MO_store_c1
  rw [if_neg hn, lN_i, m4 hp, d4 hp, nI_clamp (by omega)]
theorem putWord_ag (h : R1 σ τ) {p : Nat} (hp : p < 262144) {v w : Int32} (hv : v = w) : R1 (f_ME_putWord σ (nI p) v) (ms_memory τ (upd (m_memory τ) (p / 4) w)) := by
  subst hv
  unfold f_ME_putWord f_ME_putWord_c1
  rw [me_row σ hp, nI_clamp (by omega), R_words h.1]
  exact ⟨U_words h.1 _, h.2⟩
theorem R1_link (h : R1 σ τ) (v : Int32) : R1 (xs_link σ v) (ms_link τ v) := ⟨U_link h.1 v, h.2⟩
theorem put_link (τ : MS) (a v k : Int32) : ms_link (f_MO_put τ a v) k = f_MO_put (ms_link τ k) a v := by
  unfold f_MO_put f_MO_put_14 f_MO_put_c1
  by_cases e : a = 0
  · rw [if_pos e, if_pos e]
    unfold ms_link ms_r
    rfl
  · rw [if_neg e, if_neg e]
    unfold ms_link ms_r
    rfl
theorem rtok (σ : XS) : f_CO_rt σ &&& (31 : Int32) = f_CO_rt σ := and31 _
theorem rdok (σ : XS) : f_CO_rd σ &&& (31 : Int32) = f_CO_rd σ := and31 _
theorem vin31 {a : Int32} (ha : a &&& (31 : Int32) = a) : vp_in a 32 := by
  obtain ⟨k, hk, rfl⟩ := and31z ha
  exact nI_in hk (by omega)
theorem P87 (τ : MS) {op rt : Int32} {a3 : Int64} (hrt : vp_in rt 32) {q : Nat} (hq : q < 262144) (x7 x10 w : Int32) (left : Bool) : P_MO_partly_87 τ op rt a3 x10 (lN q) x7 left w := ⟨fun _ => ⟨fun _ => ⟨hrt, Pbytes τ hq _, hrt, trivial⟩, fun _ => ⟨hrt, Pbytes τ hq _, hrt, trivial⟩⟩, fun _ => ⟨fun _ => ⟨hrt, Pstore τ hq _ _, trivial⟩, fun _ => ⟨hrt, Pstore τ hq _ _, trivial⟩⟩⟩
theorem lsub {p : Nat} (hp : p < 262144) : lN p - Int32.toInt64 (nI (p % 4)) = lN (p - p % 4) := by
  rw [nI_l (by omega), lN_sub (by omega)]
theorem Ppartly (τ : MS) {op rt : Int32} (hrt : vp_in rt 32) {p : Nat} (hp : p < 262144) : P_MO_partly τ op rt (lN p) := by
  have h57 : ∀ (v7 : Int32) (left : Bool) {q : Nat} (hq : q < 262144), P_MO_partly_57 τ op rt (lN p) v7 left (lN q) := fun v7 left q hq => ⟨fun _ => P87 τ hrt hq _ _ _ _, fun _ => P87 τ hrt hq _ _ _ _⟩
  have h23 : ∀ left, P_MO_partly_23 τ op rt (lN p) (nI (p % 4)) left := fun left => by
    unfold P_MO_partly_23 P_MO_partly_41
    rw [lsub hp]
    exact ⟨fun _ => ⟨fun _ => h57 _ _ (by omega), fun _ => h57 _ _ hp⟩, fun _ => ⟨fun _ => h57 _ _ (by omega), fun _ => h57 _ _ hp⟩⟩
  unfold P_MO_partly
  rw [lN_i, m4 hp]
  exact ⟨fun _ => h23 _, fun _ => ⟨fun _ => h23 _, fun _ => h23 _⟩⟩
theorem lo_32 (σ : XS) (w x o : Int32) : f_LS_loaded σ 32 w x o = ((w <<< (((8 : Int32) * x) &&& 31)) >>> ((24 : Int32) &&& 31)) := by
  unfold f_LS_loaded
  rw [if_pos (show (32 : Int32) = 32 by decide)]
theorem lo_33 (σ : XS) (w x o : Int32) : f_LS_loaded σ 33 w x o = ((w <<< (((8 : Int32) * x) &&& 31)) >>> ((16 : Int32) &&& 31)) := by
  unfold f_LS_loaded
  rw [if_neg (show ¬ (33 : Int32) = 32 by decide), if_pos (show (33 : Int32) = 33 by decide)]
theorem lo_34 (σ : XS) (w x o : Int32) : f_LS_loaded σ 34 w x o = ((w <<< (((8 : Int32) * x) &&& 31)) ||| (o &&& (((-1 : Int32) <<< (((8 : Int32) * x) &&& 31)) ^^^ (-1 : Int32)))) := by
  unfold f_LS_loaded
  rw [if_neg (show ¬ (34 : Int32) = 32 by decide), if_neg (show ¬ (34 : Int32) = 33 by decide), if_pos (show (34 : Int32) = 34 by decide)]
theorem lo_35 (σ : XS) (w x o : Int32) : f_LS_loaded σ 35 w x o = w := by
  unfold f_LS_loaded
  rw [if_neg (show ¬ (35 : Int32) = 32 by decide), if_neg (show ¬ (35 : Int32) = 33 by decide), if_neg (show ¬ (35 : Int32) = 34 by decide), if_pos (show (35 : Int32) = 35 by decide)]
theorem lo_36 (σ : XS) (w x o : Int32) : f_LS_loaded σ 36 w x o = ((Int32.toUInt32 (w <<< (((8 : Int32) * x) &&& 31)) >>> (Int32.toUInt32 (24 : Int32) &&& Int32.toUInt32 31)).toInt32) := by
  unfold f_LS_loaded
  rw [if_neg (show ¬ (36 : Int32) = 32 by decide), if_neg (show ¬ (36 : Int32) = 33 by decide), if_neg (show ¬ (36 : Int32) = 34 by decide), if_neg (show ¬ (36 : Int32) = 35 by decide), if_pos (show (36 : Int32) = 36 by decide)]
theorem lo_37 (σ : XS) (w x o : Int32) : f_LS_loaded σ 37 w x o = ((Int32.toUInt32 (w <<< (((8 : Int32) * x) &&& 31)) >>> (Int32.toUInt32 (16 : Int32) &&& Int32.toUInt32 31)).toInt32) := by
  unfold f_LS_loaded
  rw [if_neg (show ¬ (37 : Int32) = 32 by decide), if_neg (show ¬ (37 : Int32) = 33 by decide), if_neg (show ¬ (37 : Int32) = 34 by decide), if_neg (show ¬ (37 : Int32) = 35 by decide), if_neg (show ¬ (37 : Int32) = 36 by decide), if_pos (show (37 : Int32) = 37 by decide)]
theorem lo_38 (σ : XS) (w x o : Int32) : f_LS_loaded σ 38 w x o = (((Int32.toUInt32 w >>> (Int32.toUInt32 ((24 : Int32) - ((8 : Int32) * x)) &&& Int32.toUInt32 31)).toInt32) ||| (o &&& (((Int32.toUInt32 (-1 : Int32) >>> (Int32.toUInt32 ((24 : Int32) - ((8 : Int32) * x)) &&& Int32.toUInt32 31)).toInt32) ^^^ (-1 : Int32)))) := by
  unfold f_LS_loaded
  rw [if_neg (show ¬ (38 : Int32) = 32 by decide), if_neg (show ¬ (38 : Int32) = 33 by decide), if_neg (show ¬ (38 : Int32) = 34 by decide), if_neg (show ¬ (38 : Int32) = 35 by decide), if_neg (show ¬ (38 : Int32) = 36 by decide), if_neg (show ¬ (38 : Int32) = 37 by decide), if_pos (show (38 : Int32) = 38 by decide)]
theorem lo_48 (σ : XS) (w x o : Int32) : f_LS_loaded σ 48 w x o = w := by
  unfold f_LS_loaded
  rw [if_neg (show ¬ (48 : Int32) = 32 by decide), if_neg (show ¬ (48 : Int32) = 33 by decide), if_neg (show ¬ (48 : Int32) = 34 by decide), if_neg (show ¬ (48 : Int32) = 35 by decide), if_neg (show ¬ (48 : Int32) = 36 by decide), if_neg (show ¬ (48 : Int32) = 37 by decide), if_neg (show ¬ (48 : Int32) = 38 by decide)]
theorem so_40 (σ : XS) (w x v : Int32) : f_LS_stored σ 40 w x v = ((w &&& (((255 : Int32) <<< (((24 : Int32) - ((8 : Int32) * x)) &&& 31)) ^^^ (-1 : Int32))) ||| ((v <<< (((24 : Int32) - ((8 : Int32) * x)) &&& 31)) &&& ((255 : Int32) <<< (((24 : Int32) - ((8 : Int32) * x)) &&& 31)))) := by
  unfold f_LS_stored f_LS_merged
  rw [if_pos (show (40 : Int32) = 40 by decide)]
theorem so_41 (σ : XS) (w x v : Int32) : f_LS_stored σ 41 w x v = ((w &&& (((65535 : Int32) <<< ((((24 : Int32) - ((8 : Int32) * x)) - (8 : Int32)) &&& 31)) ^^^ (-1 : Int32))) ||| ((v <<< ((((24 : Int32) - ((8 : Int32) * x)) - (8 : Int32)) &&& 31)) &&& ((65535 : Int32) <<< ((((24 : Int32) - ((8 : Int32) * x)) - (8 : Int32)) &&& 31)))) := by
  unfold f_LS_stored f_LS_merged
  rw [if_neg (show ¬ (41 : Int32) = 40 by decide), if_pos (show (41 : Int32) = 41 by decide)]
theorem so_42 (σ : XS) (w x v : Int32) : f_LS_stored σ 42 w x v = ((w &&& (((Int32.toUInt32 (-1 : Int32) >>> (Int32.toUInt32 ((8 : Int32) * x) &&& Int32.toUInt32 31)).toInt32) ^^^ (-1 : Int32))) ||| (((Int32.toUInt32 v >>> (Int32.toUInt32 ((8 : Int32) * x) &&& Int32.toUInt32 31)).toInt32) &&& ((Int32.toUInt32 (-1 : Int32) >>> (Int32.toUInt32 ((8 : Int32) * x) &&& Int32.toUInt32 31)).toInt32))) := by
  unfold f_LS_stored f_LS_merged
  rw [if_neg (show ¬ (42 : Int32) = 40 by decide), if_neg (show ¬ (42 : Int32) = 41 by decide), if_pos (show (42 : Int32) = 42 by decide)]
theorem so_43 (σ : XS) (w x v : Int32) : f_LS_stored σ 43 w x v = v := by
  unfold f_LS_stored f_LS_merged
  rw [if_neg (show ¬ (43 : Int32) = 40 by decide), if_neg (show ¬ (43 : Int32) = 41 by decide), if_neg (show ¬ (43 : Int32) = 42 by decide), if_pos (show (43 : Int32) = 43 by decide)]
theorem so_46 (σ : XS) (w x v : Int32) : f_LS_stored σ 46 w x v = ((w &&& (((-1 : Int32) <<< (((24 : Int32) - ((8 : Int32) * x)) &&& 31)) ^^^ (-1 : Int32))) ||| ((v <<< (((24 : Int32) - ((8 : Int32) * x)) &&& 31)) &&& ((-1 : Int32) <<< (((24 : Int32) - ((8 : Int32) * x)) &&& 31)))) := by
  unfold f_LS_stored f_LS_merged
  rw [if_neg (show ¬ (46 : Int32) = 40 by decide), if_neg (show ¬ (46 : Int32) = 41 by decide), if_neg (show ¬ (46 : Int32) = 42 by decide), if_neg (show ¬ (46 : Int32) = 43 by decide), if_neg (show ¬ (46 : Int32) = 44 by decide), if_neg (show ¬ (46 : Int32) = 45 by decide), if_pos (show (46 : Int32) = 46 by decide)]
theorem so_56 (σ : XS) (w x v : Int32) : f_LS_stored σ 56 w x v = v := by
  unfold f_LS_stored f_LS_merged
  rw [if_neg (show ¬ (56 : Int32) = 40 by decide), if_neg (show ¬ (56 : Int32) = 41 by decide), if_neg (show ¬ (56 : Int32) = 42 by decide), if_neg (show ¬ (56 : Int32) = 43 by decide), if_neg (show ¬ (56 : Int32) = 44 by decide), if_neg (show ¬ (56 : Int32) = 45 by decide), if_neg (show ¬ (56 : Int32) = 46 by decide)]
end LDS
