def bt (x : Int32) (i : Nat) : Bool := x.toBitVec.getLsbD i
theorem b_ext {x y : Int32} (h : ∀ i, i < 32 → bt x i = bt y i) : x = y := Int32.toBitVec_inj.mp (BitVec.eq_of_getLsbD_eq (fun i hi => h i hi))
theorem b_or (x y : Int32) (i : Nat) : bt (x ||| y) i = (bt x i || bt y i) := by unfold bt; rw [Int32.toBitVec_or, BitVec.getLsbD_or]
theorem b_and (x y : Int32) (i : Nat) : bt (x &&& y) i = (bt x i && bt y i) := by unfold bt; rw [Int32.toBitVec_and, BitVec.getLsbD_and]
theorem b_xor (x y : Int32) (i : Nat) : bt (x ^^^ y) i = (bt x i ^^ bt y i) := by unfold bt; rw [Int32.toBitVec_xor, BitVec.getLsbD_xor]
theorem b_shlg (x s : Int32) (n : Nat) (hs : (s.toBitVec.smod 32).toNat = n) {i : Nat} (hi : i < 32) : bt (x <<< s) i = (decide (n ≤ i) && bt x (i - n)) := by
  unfold bt
  rw [Int32.toBitVec_shiftLeft]
  show (x.toBitVec <<< (s.toBitVec.smod 32).toNat).getLsbD i = _
  rw [hs, BitVec.getLsbD_shiftLeft]
  rcases Nat.lt_or_ge i n with h | h
  · simp [h, Nat.not_le.mpr h]
  · simp [hi, h, Nat.not_lt.mpr h]
theorem b_ushrg (x s : Int32) (n : Nat) (hs : ((s.toUInt32 &&& Int32.toUInt32 31).toBitVec % 32).toNat = n) (i : Nat) : bt ((x.toUInt32 >>> (s.toUInt32 &&& Int32.toUInt32 31)).toInt32) i = bt x (n + i) := by
  show (x.toUInt32 >>> (s.toUInt32 &&& Int32.toUInt32 31)).toBitVec.getLsbD i = x.toUInt32.toBitVec.getLsbD (n + i)
  rw [UInt32.toBitVec_shiftRight]
  show (x.toUInt32.toBitVec >>> ((s.toUInt32 &&& Int32.toUInt32 31).toBitVec % 32).toNat).getLsbD i = _
  rw [hs, BitVec.getLsbD_ushiftRight]
theorem b_sshrg (x s : Int32) (n : Nat) (hs : (s.toBitVec.smod 32).toNat = n) {i : Nat} (hi : i < 32) : bt (x >>> s) i = if n + i < 32 then bt x (n + i) else bt x 31 := by
  unfold bt
  rw [Int32.toBitVec_shiftRight]
  show (x.toBitVec.sshiftRight (s.toBitVec.smod 32).toNat).getLsbD i = _
  rw [hs, BitVec.getLsbD_sshiftRight, BitVec.msb_eq_getLsbD_last]
  simp [hi]
theorem b_big {x : Int32} {i : Nat} (h : 32 ≤ i) : bt x i = false := BitVec.getLsbD_of_ge _ _ h
theorem b_0 (i : Nat) : bt 0 i = false := BitVec.getLsbD_zero
theorem b_i16 (x : Int32) {i : Nat} (hi : i < 32) : bt (x.toInt16.toInt32) i = if i < 16 then bt x i else bt x 15 := by
  unfold bt
  rw [Int16.toBitVec_toInt32, Int32.toBitVec_toInt16, BitVec.getLsbD_signExtend, BitVec.msb_eq_getLsbD_last]
  by_cases h : i < 16
  · simp [h, hi, BitVec.getElem_signExtend]
  · simp [h, hi, BitVec.getElem_signExtend]
theorem b_all {P : Nat → Prop} (h0 : P 0) (h1 : P 1) (h2 : P 2) (h3 : P 3) (h4 : P 4) (h5 : P 5) (h6 : P 6) (h7 : P 7) (h8 : P 8) (h9 : P 9) (h10 : P 10) (h11 : P 11) (h12 : P 12) (h13 : P 13) (h14 : P 14) (h15 : P 15) (h16 : P 16) (h17 : P 17) (h18 : P 18) (h19 : P 19) (h20 : P 20) (h21 : P 21) (h22 : P 22) (h23 : P 23) (h24 : P 24) (h25 : P 25) (h26 : P 26) (h27 : P 27) (h28 : P 28) (h29 : P 29) (h30 : P 30) (h31 : P 31) : ∀ i, i < 32 → P i := by
  intro i hi
  match i, hi with
  | 0, _ => exact h0
  | 1, _ => exact h1
  | 2, _ => exact h2
  | 3, _ => exact h3
  | 4, _ => exact h4
  | 5, _ => exact h5
  | 6, _ => exact h6
  | 7, _ => exact h7
  | 8, _ => exact h8
  | 9, _ => exact h9
  | 10, _ => exact h10
  | 11, _ => exact h11
  | 12, _ => exact h12
  | 13, _ => exact h13
  | 14, _ => exact h14
  | 15, _ => exact h15
  | 16, _ => exact h16
  | 17, _ => exact h17
  | 18, _ => exact h18
  | 19, _ => exact h19
  | 20, _ => exact h20
  | 21, _ => exact h21
  | 22, _ => exact h22
  | 23, _ => exact h23
  | 24, _ => exact h24
  | 25, _ => exact h25
  | 26, _ => exact h26
  | 27, _ => exact h27
  | 28, _ => exact h28
  | 29, _ => exact h29
  | 30, _ => exact h30
  | 31, _ => exact h31
  | n + 32, hi => omega
theorem b_l0 (x : Int32) {i : Nat} (hi : i < 32) : bt (x <<< ((0 : Int32) &&& 31)) i = (decide (0 ≤ i) && bt x (i - 0)) := b_shlg x _ 0 (by decide +kernel) hi
theorem b_r0 (x : Int32) {i : Nat} (hi : i < 32) : bt (x >>> ((0 : Int32) &&& 31)) i = if 0 + i < 32 then bt x (0 + i) else bt x 31 := b_sshrg x _ 0 (by decide +kernel) hi
theorem b_u0 (x : Int32) (i : Nat) : bt ((x.toUInt32 >>> (Int32.toUInt32 (0 : Int32) &&& Int32.toUInt32 31)).toInt32) i = bt x (0 + i) := b_ushrg x _ 0 (by decide +kernel) i
theorem b_l1 (x : Int32) {i : Nat} (hi : i < 32) : bt (x <<< ((1 : Int32) &&& 31)) i = (decide (1 ≤ i) && bt x (i - 1)) := b_shlg x _ 1 (by decide +kernel) hi
theorem b_r1 (x : Int32) {i : Nat} (hi : i < 32) : bt (x >>> ((1 : Int32) &&& 31)) i = if 1 + i < 32 then bt x (1 + i) else bt x 31 := b_sshrg x _ 1 (by decide +kernel) hi
theorem b_u1 (x : Int32) (i : Nat) : bt ((x.toUInt32 >>> (Int32.toUInt32 (1 : Int32) &&& Int32.toUInt32 31)).toInt32) i = bt x (1 + i) := b_ushrg x _ 1 (by decide +kernel) i
theorem b_l2 (x : Int32) {i : Nat} (hi : i < 32) : bt (x <<< ((2 : Int32) &&& 31)) i = (decide (2 ≤ i) && bt x (i - 2)) := b_shlg x _ 2 (by decide +kernel) hi
theorem b_r2 (x : Int32) {i : Nat} (hi : i < 32) : bt (x >>> ((2 : Int32) &&& 31)) i = if 2 + i < 32 then bt x (2 + i) else bt x 31 := b_sshrg x _ 2 (by decide +kernel) hi
theorem b_u2 (x : Int32) (i : Nat) : bt ((x.toUInt32 >>> (Int32.toUInt32 (2 : Int32) &&& Int32.toUInt32 31)).toInt32) i = bt x (2 + i) := b_ushrg x _ 2 (by decide +kernel) i
theorem b_l3 (x : Int32) {i : Nat} (hi : i < 32) : bt (x <<< ((3 : Int32) &&& 31)) i = (decide (3 ≤ i) && bt x (i - 3)) := b_shlg x _ 3 (by decide +kernel) hi
theorem b_r3 (x : Int32) {i : Nat} (hi : i < 32) : bt (x >>> ((3 : Int32) &&& 31)) i = if 3 + i < 32 then bt x (3 + i) else bt x 31 := b_sshrg x _ 3 (by decide +kernel) hi
theorem b_u3 (x : Int32) (i : Nat) : bt ((x.toUInt32 >>> (Int32.toUInt32 (3 : Int32) &&& Int32.toUInt32 31)).toInt32) i = bt x (3 + i) := b_ushrg x _ 3 (by decide +kernel) i
theorem b_l4 (x : Int32) {i : Nat} (hi : i < 32) : bt (x <<< ((4 : Int32) &&& 31)) i = (decide (4 ≤ i) && bt x (i - 4)) := b_shlg x _ 4 (by decide +kernel) hi
theorem b_r4 (x : Int32) {i : Nat} (hi : i < 32) : bt (x >>> ((4 : Int32) &&& 31)) i = if 4 + i < 32 then bt x (4 + i) else bt x 31 := b_sshrg x _ 4 (by decide +kernel) hi
theorem b_u4 (x : Int32) (i : Nat) : bt ((x.toUInt32 >>> (Int32.toUInt32 (4 : Int32) &&& Int32.toUInt32 31)).toInt32) i = bt x (4 + i) := b_ushrg x _ 4 (by decide +kernel) i
theorem b_l6 (x : Int32) {i : Nat} (hi : i < 32) : bt (x <<< ((6 : Int32) &&& 31)) i = (decide (6 ≤ i) && bt x (i - 6)) := b_shlg x _ 6 (by decide +kernel) hi
theorem b_r6 (x : Int32) {i : Nat} (hi : i < 32) : bt (x >>> ((6 : Int32) &&& 31)) i = if 6 + i < 32 then bt x (6 + i) else bt x 31 := b_sshrg x _ 6 (by decide +kernel) hi
theorem b_u6 (x : Int32) (i : Nat) : bt ((x.toUInt32 >>> (Int32.toUInt32 (6 : Int32) &&& Int32.toUInt32 31)).toInt32) i = bt x (6 + i) := b_ushrg x _ 6 (by decide +kernel) i
theorem b_l8 (x : Int32) {i : Nat} (hi : i < 32) : bt (x <<< ((8 : Int32) &&& 31)) i = (decide (8 ≤ i) && bt x (i - 8)) := b_shlg x _ 8 (by decide +kernel) hi
theorem b_r8 (x : Int32) {i : Nat} (hi : i < 32) : bt (x >>> ((8 : Int32) &&& 31)) i = if 8 + i < 32 then bt x (8 + i) else bt x 31 := b_sshrg x _ 8 (by decide +kernel) hi
theorem b_u8 (x : Int32) (i : Nat) : bt ((x.toUInt32 >>> (Int32.toUInt32 (8 : Int32) &&& Int32.toUInt32 31)).toInt32) i = bt x (8 + i) := b_ushrg x _ 8 (by decide +kernel) i
theorem b_l9 (x : Int32) {i : Nat} (hi : i < 32) : bt (x <<< ((9 : Int32) &&& 31)) i = (decide (9 ≤ i) && bt x (i - 9)) := b_shlg x _ 9 (by decide +kernel) hi
theorem b_r9 (x : Int32) {i : Nat} (hi : i < 32) : bt (x >>> ((9 : Int32) &&& 31)) i = if 9 + i < 32 then bt x (9 + i) else bt x 31 := b_sshrg x _ 9 (by decide +kernel) hi
theorem b_u9 (x : Int32) (i : Nat) : bt ((x.toUInt32 >>> (Int32.toUInt32 (9 : Int32) &&& Int32.toUInt32 31)).toInt32) i = bt x (9 + i) := b_ushrg x _ 9 (by decide +kernel) i
theorem b_l10 (x : Int32) {i : Nat} (hi : i < 32) : bt (x <<< ((10 : Int32) &&& 31)) i = (decide (10 ≤ i) && bt x (i - 10)) := b_shlg x _ 10 (by decide +kernel) hi
theorem b_r10 (x : Int32) {i : Nat} (hi : i < 32) : bt (x >>> ((10 : Int32) &&& 31)) i = if 10 + i < 32 then bt x (10 + i) else bt x 31 := b_sshrg x _ 10 (by decide +kernel) hi
theorem b_u10 (x : Int32) (i : Nat) : bt ((x.toUInt32 >>> (Int32.toUInt32 (10 : Int32) &&& Int32.toUInt32 31)).toInt32) i = bt x (10 + i) := b_ushrg x _ 10 (by decide +kernel) i
theorem b_l11 (x : Int32) {i : Nat} (hi : i < 32) : bt (x <<< ((11 : Int32) &&& 31)) i = (decide (11 ≤ i) && bt x (i - 11)) := b_shlg x _ 11 (by decide +kernel) hi
theorem b_r11 (x : Int32) {i : Nat} (hi : i < 32) : bt (x >>> ((11 : Int32) &&& 31)) i = if 11 + i < 32 then bt x (11 + i) else bt x 31 := b_sshrg x _ 11 (by decide +kernel) hi
theorem b_u11 (x : Int32) (i : Nat) : bt ((x.toUInt32 >>> (Int32.toUInt32 (11 : Int32) &&& Int32.toUInt32 31)).toInt32) i = bt x (11 + i) := b_ushrg x _ 11 (by decide +kernel) i
theorem b_l12 (x : Int32) {i : Nat} (hi : i < 32) : bt (x <<< ((12 : Int32) &&& 31)) i = (decide (12 ≤ i) && bt x (i - 12)) := b_shlg x _ 12 (by decide +kernel) hi
theorem b_r12 (x : Int32) {i : Nat} (hi : i < 32) : bt (x >>> ((12 : Int32) &&& 31)) i = if 12 + i < 32 then bt x (12 + i) else bt x 31 := b_sshrg x _ 12 (by decide +kernel) hi
theorem b_u12 (x : Int32) (i : Nat) : bt ((x.toUInt32 >>> (Int32.toUInt32 (12 : Int32) &&& Int32.toUInt32 31)).toInt32) i = bt x (12 + i) := b_ushrg x _ 12 (by decide +kernel) i
theorem b_l13 (x : Int32) {i : Nat} (hi : i < 32) : bt (x <<< ((13 : Int32) &&& 31)) i = (decide (13 ≤ i) && bt x (i - 13)) := b_shlg x _ 13 (by decide +kernel) hi
theorem b_r13 (x : Int32) {i : Nat} (hi : i < 32) : bt (x >>> ((13 : Int32) &&& 31)) i = if 13 + i < 32 then bt x (13 + i) else bt x 31 := b_sshrg x _ 13 (by decide +kernel) hi
theorem b_u13 (x : Int32) (i : Nat) : bt ((x.toUInt32 >>> (Int32.toUInt32 (13 : Int32) &&& Int32.toUInt32 31)).toInt32) i = bt x (13 + i) := b_ushrg x _ 13 (by decide +kernel) i
theorem b_l16 (x : Int32) {i : Nat} (hi : i < 32) : bt (x <<< ((16 : Int32) &&& 31)) i = (decide (16 ≤ i) && bt x (i - 16)) := b_shlg x _ 16 (by decide +kernel) hi
theorem b_r16 (x : Int32) {i : Nat} (hi : i < 32) : bt (x >>> ((16 : Int32) &&& 31)) i = if 16 + i < 32 then bt x (16 + i) else bt x 31 := b_sshrg x _ 16 (by decide +kernel) hi
theorem b_u16 (x : Int32) (i : Nat) : bt ((x.toUInt32 >>> (Int32.toUInt32 (16 : Int32) &&& Int32.toUInt32 31)).toInt32) i = bt x (16 + i) := b_ushrg x _ 16 (by decide +kernel) i
theorem b_l21 (x : Int32) {i : Nat} (hi : i < 32) : bt (x <<< ((21 : Int32) &&& 31)) i = (decide (21 ≤ i) && bt x (i - 21)) := b_shlg x _ 21 (by decide +kernel) hi
theorem b_r21 (x : Int32) {i : Nat} (hi : i < 32) : bt (x >>> ((21 : Int32) &&& 31)) i = if 21 + i < 32 then bt x (21 + i) else bt x 31 := b_sshrg x _ 21 (by decide +kernel) hi
theorem b_u21 (x : Int32) (i : Nat) : bt ((x.toUInt32 >>> (Int32.toUInt32 (21 : Int32) &&& Int32.toUInt32 31)).toInt32) i = bt x (21 + i) := b_ushrg x _ 21 (by decide +kernel) i
theorem b_l24 (x : Int32) {i : Nat} (hi : i < 32) : bt (x <<< ((24 : Int32) &&& 31)) i = (decide (24 ≤ i) && bt x (i - 24)) := b_shlg x _ 24 (by decide +kernel) hi
theorem b_r24 (x : Int32) {i : Nat} (hi : i < 32) : bt (x >>> ((24 : Int32) &&& 31)) i = if 24 + i < 32 then bt x (24 + i) else bt x 31 := b_sshrg x _ 24 (by decide +kernel) hi
theorem b_u24 (x : Int32) (i : Nat) : bt ((x.toUInt32 >>> (Int32.toUInt32 (24 : Int32) &&& Int32.toUInt32 31)).toInt32) i = bt x (24 + i) := b_ushrg x _ 24 (by decide +kernel) i
theorem b_l26 (x : Int32) {i : Nat} (hi : i < 32) : bt (x <<< ((26 : Int32) &&& 31)) i = (decide (26 ≤ i) && bt x (i - 26)) := b_shlg x _ 26 (by decide +kernel) hi
theorem b_r26 (x : Int32) {i : Nat} (hi : i < 32) : bt (x >>> ((26 : Int32) &&& 31)) i = if 26 + i < 32 then bt x (26 + i) else bt x 31 := b_sshrg x _ 26 (by decide +kernel) hi
theorem b_u26 (x : Int32) (i : Nat) : bt ((x.toUInt32 >>> (Int32.toUInt32 (26 : Int32) &&& Int32.toUInt32 31)).toInt32) i = bt x (26 + i) := b_ushrg x _ 26 (by decide +kernel) i
theorem b_l28 (x : Int32) {i : Nat} (hi : i < 32) : bt (x <<< ((28 : Int32) &&& 31)) i = (decide (28 ≤ i) && bt x (i - 28)) := b_shlg x _ 28 (by decide +kernel) hi
theorem b_r28 (x : Int32) {i : Nat} (hi : i < 32) : bt (x >>> ((28 : Int32) &&& 31)) i = if 28 + i < 32 then bt x (28 + i) else bt x 31 := b_sshrg x _ 28 (by decide +kernel) hi
theorem b_u28 (x : Int32) (i : Nat) : bt ((x.toUInt32 >>> (Int32.toUInt32 (28 : Int32) &&& Int32.toUInt32 31)).toInt32) i = bt x (28 + i) := b_ushrg x _ 28 (by decide +kernel) i
theorem b_l30 (x : Int32) {i : Nat} (hi : i < 32) : bt (x <<< ((30 : Int32) &&& 31)) i = (decide (30 ≤ i) && bt x (i - 30)) := b_shlg x _ 30 (by decide +kernel) hi
theorem b_r30 (x : Int32) {i : Nat} (hi : i < 32) : bt (x >>> ((30 : Int32) &&& 31)) i = if 30 + i < 32 then bt x (30 + i) else bt x 31 := b_sshrg x _ 30 (by decide +kernel) hi
theorem b_u30 (x : Int32) (i : Nat) : bt ((x.toUInt32 >>> (Int32.toUInt32 (30 : Int32) &&& Int32.toUInt32 31)).toInt32) i = bt x (30 + i) := b_ushrg x _ 30 (by decide +kernel) i
theorem bc_1 {i : Nat} (hi : i < 32) : bt (1 : Int32) i = ((decide (0 ≤ i) && decide (i < 1))) := (by decide +kernel : ∀ i, i < 32 → bt (1 : Int32) i = ((decide (0 ≤ i) && decide (i < 1)))) i hi
theorem bc_2 {i : Nat} (hi : i < 32) : bt (2 : Int32) i = ((decide (1 ≤ i) && decide (i < 2))) := (by decide +kernel : ∀ i, i < 32 → bt (2 : Int32) i = ((decide (1 ≤ i) && decide (i < 2)))) i hi
theorem bc_3 {i : Nat} (hi : i < 32) : bt (3 : Int32) i = ((decide (0 ≤ i) && decide (i < 2))) := (by decide +kernel : ∀ i, i < 32 → bt (3 : Int32) i = ((decide (0 ≤ i) && decide (i < 2)))) i hi
theorem bc_4 {i : Nat} (hi : i < 32) : bt (4 : Int32) i = ((decide (2 ≤ i) && decide (i < 3))) := (by decide +kernel : ∀ i, i < 32 → bt (4 : Int32) i = ((decide (2 ≤ i) && decide (i < 3)))) i hi
theorem bc_15 {i : Nat} (hi : i < 32) : bt (15 : Int32) i = ((decide (0 ≤ i) && decide (i < 4))) := (by decide +kernel : ∀ i, i < 32 → bt (15 : Int32) i = ((decide (0 ≤ i) && decide (i < 4)))) i hi
theorem bc_16 {i : Nat} (hi : i < 32) : bt (16 : Int32) i = ((decide (4 ≤ i) && decide (i < 5))) := (by decide +kernel : ∀ i, i < 32 → bt (16 : Int32) i = ((decide (4 ≤ i) && decide (i < 5)))) i hi
theorem bc_18 {i : Nat} (hi : i < 32) : bt (18 : Int32) i = ((decide (1 ≤ i) && decide (i < 2)) || (decide (4 ≤ i) && decide (i < 5))) := (by decide +kernel : ∀ i, i < 32 → bt (18 : Int32) i = ((decide (1 ≤ i) && decide (i < 2)) || (decide (4 ≤ i) && decide (i < 5)))) i hi
theorem bc_31 {i : Nat} (hi : i < 32) : bt (31 : Int32) i = ((decide (0 ≤ i) && decide (i < 5))) := (by decide +kernel : ∀ i, i < 32 → bt (31 : Int32) i = ((decide (0 ≤ i) && decide (i < 5)))) i hi
theorem bc_63 {i : Nat} (hi : i < 32) : bt (63 : Int32) i = ((decide (0 ≤ i) && decide (i < 6))) := (by decide +kernel : ∀ i, i < 32 → bt (63 : Int32) i = ((decide (0 ≤ i) && decide (i < 6)))) i hi
theorem bc_255 {i : Nat} (hi : i < 32) : bt (255 : Int32) i = ((decide (0 ≤ i) && decide (i < 8))) := (by decide +kernel : ∀ i, i < 32 → bt (255 : Int32) i = ((decide (0 ≤ i) && decide (i < 8)))) i hi
theorem bc_4095 {i : Nat} (hi : i < 32) : bt (4095 : Int32) i = ((decide (0 ≤ i) && decide (i < 12))) := (by decide +kernel : ∀ i, i < 32 → bt (4095 : Int32) i = ((decide (0 ≤ i) && decide (i < 12)))) i hi
theorem bc_65535 {i : Nat} (hi : i < 32) : bt (65535 : Int32) i = ((decide (0 ≤ i) && decide (i < 16))) := (by decide +kernel : ∀ i, i < 32 → bt (65535 : Int32) i = ((decide (0 ≤ i) && decide (i < 16)))) i hi
theorem bc_262143 {i : Nat} (hi : i < 32) : bt (262143 : Int32) i = ((decide (0 ≤ i) && decide (i < 18))) := (by decide +kernel : ∀ i, i < 32 → bt (262143 : Int32) i = ((decide (0 ≤ i) && decide (i < 18)))) i hi
theorem bc_1048575 {i : Nat} (hi : i < 32) : bt (1048575 : Int32) i = ((decide (0 ≤ i) && decide (i < 20))) := (by decide +kernel : ∀ i, i < 32 → bt (1048575 : Int32) i = ((decide (0 ≤ i) && decide (i < 20)))) i hi
theorem bc_8388592 {i : Nat} (hi : i < 32) : bt (8388592 : Int32) i = ((decide (4 ≤ i) && decide (i < 23))) := (by decide +kernel : ∀ i, i < 32 → bt (8388592 : Int32) i = ((decide (4 ≤ i) && decide (i < 23)))) i hi
theorem bc_67108862 {i : Nat} (hi : i < 32) : bt (67108862 : Int32) i = ((decide (1 ≤ i) && decide (i < 26))) := (by decide +kernel : ∀ i, i < 32 → bt (67108862 : Int32) i = ((decide (1 ≤ i) && decide (i < 26)))) i hi
theorem bc_67108863 {i : Nat} (hi : i < 32) : bt (67108863 : Int32) i = ((decide (0 ≤ i) && decide (i < 26))) := (by decide +kernel : ∀ i, i < 32 → bt (67108863 : Int32) i = ((decide (0 ≤ i) && decide (i < 26)))) i hi
theorem bc_268435456 {i : Nat} (hi : i < 32) : bt (268435456 : Int32) i = ((decide (28 ≤ i) && decide (i < 29))) := (by decide +kernel : ∀ i, i < 32 → bt (268435456 : Int32) i = ((decide (28 ≤ i) && decide (i < 29)))) i hi
theorem bc_536870911 {i : Nat} (hi : i < 32) : bt (536870911 : Int32) i = ((decide (0 ≤ i) && decide (i < 29))) := (by decide +kernel : ∀ i, i < 32 → bt (536870911 : Int32) i = ((decide (0 ≤ i) && decide (i < 29)))) i hi
theorem bc_m1 {i : Nat} (hi : i < 32) : bt (-1 : Int32) i = ((decide (0 ≤ i) && decide (i < 32))) := (by decide +kernel : ∀ i, i < 32 → bt (-1 : Int32) i = ((decide (0 ≤ i) && decide (i < 32)))) i hi
theorem bc_m2 {i : Nat} (hi : i < 32) : bt (-2 : Int32) i = ((decide (1 ≤ i) && decide (i < 32))) := (by decide +kernel : ∀ i, i < 32 → bt (-2 : Int32) i = ((decide (1 ≤ i) && decide (i < 32)))) i hi
theorem bc_m8192 {i : Nat} (hi : i < 32) : bt (-8192 : Int32) i = ((decide (13 ≤ i) && decide (i < 32))) := (by decide +kernel : ∀ i, i < 32 → bt (-8192 : Int32) i = ((decide (13 ≤ i) && decide (i < 32)))) i hi
theorem bc_m8388608 {i : Nat} (hi : i < 32) : bt (-8388608 : Int32) i = ((decide (23 ≤ i) && decide (i < 32))) := (by decide +kernel : ∀ i, i < 32 → bt (-8388608 : Int32) i = ((decide (23 ≤ i) && decide (i < 32)))) i hi
theorem bc_m3 {i : Nat} (hi : i < 32) : bt (-3 : Int32) i = ((decide (0 ≤ i) && decide (i < 1)) || (decide (2 ≤ i) && decide (i < 32))) := (by decide +kernel : ∀ i, i < 32 → bt (-3 : Int32) i = ((decide (0 ≤ i) && decide (i < 1)) || (decide (2 ≤ i) && decide (i < 32)))) i hi
theorem bc_m268435456 {i : Nat} (hi : i < 32) : bt (-268435456 : Int32) i = ((decide (28 ≤ i) && decide (i < 32))) := (by decide +kernel : ∀ i, i < 32 → bt (-268435456 : Int32) i = ((decide (28 ≤ i) && decide (i < 32)))) i hi
theorem bc_2147483647 {i : Nat} (hi : i < 32) : bt (2147483647 : Int32) i = ((decide (0 ≤ i) && decide (i < 31))) := (by decide +kernel : ∀ i, i < 32 → bt (2147483647 : Int32) i = ((decide (0 ≤ i) && decide (i < 31)))) i hi
theorem bc_m2147483648 {i : Nat} (hi : i < 32) : bt (-2147483648 : Int32) i = ((decide (31 ≤ i) && decide (i < 32))) := (by decide +kernel : ∀ i, i < 32 → bt (-2147483648 : Int32) i = ((decide (31 ≤ i) && decide (i < 32)))) i hi
theorem bc_m805306493 {i : Nat} (hi : i < 32) : bt (-805306493 : Int32) i = ((decide (0 ≤ i) && decide (i < 2)) || (decide (7 ≤ i) && decide (i < 28)) || (decide (30 ≤ i) && decide (i < 32))) := (by decide +kernel : ∀ i, i < 32 → bt (-805306493 : Int32) i = ((decide (0 ≤ i) && decide (i < 2)) || (decide (7 ≤ i) && decide (i < 28)) || (decide (30 ≤ i) && decide (i < 32)))) i hi
theorem bc_805306492 {i : Nat} (hi : i < 32) : bt (805306492 : Int32) i = ((decide (2 ≤ i) && decide (i < 7)) || (decide (28 ≤ i) && decide (i < 30))) := (by decide +kernel : ∀ i, i < 32 → bt (805306492 : Int32) i = ((decide (2 ≤ i) && decide (i < 7)) || (decide (28 ≤ i) && decide (i < 30)))) i hi
theorem bc_65280 {i : Nat} (hi : i < 32) : bt (65280 : Int32) i = ((decide (8 ≤ i) && decide (i < 16))) := (by decide +kernel : ∀ i, i < 32 → bt (65280 : Int32) i = ((decide (8 ≤ i) && decide (i < 16)))) i hi
theorem bc_768 {i : Nat} (hi : i < 32) : bt (768 : Int32) i = ((decide (8 ≤ i) && decide (i < 10))) := (by decide +kernel : ∀ i, i < 32 → bt (768 : Int32) i = ((decide (8 ≤ i) && decide (i < 10)))) i hi
theorem fld21 (x : Int32) : (x >>> ((21 : Int32) &&& 31)) &&& (31 : Int32) = ((Int32.toUInt32 x >>> (Int32.toUInt32 (21 : Int32) &&& Int32.toUInt32 31)).toInt32) &&& (31 : Int32) := by
  refine b_ext (b_all ?_ ?_ ?_ ?_ ?_ ?_ ?_ ?_ ?_ ?_ ?_ ?_ ?_ ?_ ?_ ?_ ?_ ?_ ?_ ?_ ?_ ?_ ?_ ?_ ?_ ?_ ?_ ?_ ?_ ?_ ?_ ?_) <;> simp [b_or, b_and, b_xor, b_0, b_r21, b_u21, bc_31]
theorem fld16 (x : Int32) : (x >>> ((16 : Int32) &&& 31)) &&& (31 : Int32) = ((Int32.toUInt32 x >>> (Int32.toUInt32 (16 : Int32) &&& Int32.toUInt32 31)).toInt32) &&& (31 : Int32) := by
  refine b_ext (b_all ?_ ?_ ?_ ?_ ?_ ?_ ?_ ?_ ?_ ?_ ?_ ?_ ?_ ?_ ?_ ?_ ?_ ?_ ?_ ?_ ?_ ?_ ?_ ?_ ?_ ?_ ?_ ?_ ?_ ?_ ?_ ?_) <;> simp [b_or, b_and, b_xor, b_0, b_r16, b_u16, bc_31]
theorem fld11 (x : Int32) : (x >>> ((11 : Int32) &&& 31)) &&& (31 : Int32) = ((Int32.toUInt32 x >>> (Int32.toUInt32 (11 : Int32) &&& Int32.toUInt32 31)).toInt32) &&& (31 : Int32) := by
  refine b_ext (b_all ?_ ?_ ?_ ?_ ?_ ?_ ?_ ?_ ?_ ?_ ?_ ?_ ?_ ?_ ?_ ?_ ?_ ?_ ?_ ?_ ?_ ?_ ?_ ?_ ?_ ?_ ?_ ?_ ?_ ?_ ?_ ?_) <;> simp [b_or, b_and, b_xor, b_0, b_r11, b_u11, bc_31]
theorem fld6 (x : Int32) : (x >>> ((6 : Int32) &&& 31)) &&& (31 : Int32) = ((Int32.toUInt32 x >>> (Int32.toUInt32 (6 : Int32) &&& Int32.toUInt32 31)).toInt32) &&& (31 : Int32) := by
  refine b_ext (b_all ?_ ?_ ?_ ?_ ?_ ?_ ?_ ?_ ?_ ?_ ?_ ?_ ?_ ?_ ?_ ?_ ?_ ?_ ?_ ?_ ?_ ?_ ?_ ?_ ?_ ?_ ?_ ?_ ?_ ?_ ?_ ?_) <;> simp [b_or, b_and, b_xor, b_0, b_r6, b_u6, bc_31]
theorem fld12 (x : Int32) : (x >>> ((12 : Int32) &&& 31)) &&& (1 : Int32) = ((Int32.toUInt32 x >>> (Int32.toUInt32 (12 : Int32) &&& Int32.toUInt32 31)).toInt32) &&& (1 : Int32) := by
  refine b_ext (b_all ?_ ?_ ?_ ?_ ?_ ?_ ?_ ?_ ?_ ?_ ?_ ?_ ?_ ?_ ?_ ?_ ?_ ?_ ?_ ?_ ?_ ?_ ?_ ?_ ?_ ?_ ?_ ?_ ?_ ?_ ?_ ?_) <;> simp [b_or, b_and, b_xor, b_0, b_r12, b_u12, bc_1]
theorem imm16 (x : Int32) : (x <<< ((16 : Int32) &&& 31)) >>> ((16 : Int32) &&& 31) = (Int32.toInt16 x).toInt32 := by
  refine b_ext (b_all ?_ ?_ ?_ ?_ ?_ ?_ ?_ ?_ ?_ ?_ ?_ ?_ ?_ ?_ ?_ ?_ ?_ ?_ ?_ ?_ ?_ ?_ ?_ ?_ ?_ ?_ ?_ ?_ ?_ ?_ ?_ ?_) <;> simp [b_or, b_and, b_xor, b_0, b_l16, b_r16, b_i16]
theorem immu16 (x : Int32) : (Int32.toInt16 x).toInt32 &&& (65535 : Int32) = x &&& (65535 : Int32) := by
  refine b_ext (b_all ?_ ?_ ?_ ?_ ?_ ?_ ?_ ?_ ?_ ?_ ?_ ?_ ?_ ?_ ?_ ?_ ?_ ?_ ?_ ?_ ?_ ?_ ?_ ?_ ?_ ?_ ?_ ?_ ?_ ?_ ?_ ?_) <;> simp [b_or, b_and, b_xor, b_0, b_i16, bc_65535]
theorem ctx4 (x : Int32) : (((Int32.toUInt32 x >>> (Int32.toUInt32 (13 : Int32) &&& Int32.toUInt32 31)).toInt32)) <<< ((4 : Int32) &&& 31) = ((Int32.toUInt32 x >>> (Int32.toUInt32 (9 : Int32) &&& Int32.toUInt32 31)).toInt32) &&& (8388592 : Int32) := by
  refine b_ext (b_all ?_ ?_ ?_ ?_ ?_ ?_ ?_ ?_ ?_ ?_ ?_ ?_ ?_ ?_ ?_ ?_ ?_ ?_ ?_ ?_ ?_ ?_ ?_ ?_ ?_ ?_ ?_ ?_ ?_ ?_ ?_ ?_) <;> simp [b_or, b_and, b_xor, b_0, b_u13, b_u9, b_l4, bc_8388592, b_big]
theorem idx31 (x v : Int32) : ((x &&& ((31 : Int32) ^^^ (-1 : Int32))) ||| (v &&& (31 : Int32))) &&& (31 : Int32) = v &&& (31 : Int32) := by
  refine b_ext (fun i hi => ?_)
  rw [b_and, b_or, b_and, b_xor, b_and, bc_m1 hi]
  cases bt x i <;> cases bt (31 : Int32) i <;> cases bt v i <;> simp [hi]
theorem m26or (x v : Int32) (h : x &&& (67108863 : Int32) = x) : ((x &&& ((67108863 : Int32) ^^^ (-1 : Int32))) ||| (v &&& (67108863 : Int32))) &&& (67108863 : Int32) = (x &&& ((67108863 : Int32) ^^^ (-1 : Int32))) ||| (v &&& (67108863 : Int32)) := by
  have hb : ∀ i, i < 32 → (bt x i && bt (67108863 : Int32) i) = bt x i := fun i _ => by rw [← b_and, h]
  refine b_ext (fun i hi => ?_)
  have h2 := hb i hi
  rw [b_and, b_or, b_and, b_xor, b_and, bc_m1 hi]
  revert h2
  cases bt x i <;> cases bt (67108863 : Int32) i <;> cases bt v i <;> simp [hi]
theorem m26lo (x : Int32) (h : x &&& (67108863 : Int32) = x) : x &&& (67108862 : Int32) = x &&& (-2 : Int32) := by
  rw [← h, Int32.and_assoc, Int32.and_assoc]
  rfl
theorem m26h (x : Int32) : (x &&& (67108862 : Int32)) &&& (67108862 : Int32) = x &&& (67108862 : Int32) := by
  rw [Int32.and_assoc]
  rfl
theorem m26z (x : Int32) (c : Bool) (h : x &&& (67108862 : Int32) = x) : (x ||| zb c) &&& (67108863 : Int32) = x ||| zb c := by
  rw [← h]
  cases c
  · refine b_ext (b_all ?_ ?_ ?_ ?_ ?_ ?_ ?_ ?_ ?_ ?_ ?_ ?_ ?_ ?_ ?_ ?_ ?_ ?_ ?_ ?_ ?_ ?_ ?_ ?_ ?_ ?_ ?_ ?_ ?_ ?_ ?_ ?_) <;> simp [b_or, b_and, b_xor, b_0, bc_67108862, bc_67108863, zb]
  · refine b_ext (b_all ?_ ?_ ?_ ?_ ?_ ?_ ?_ ?_ ?_ ?_ ?_ ?_ ?_ ?_ ?_ ?_ ?_ ?_ ?_ ?_ ?_ ?_ ?_ ?_ ?_ ?_ ?_ ?_ ?_ ?_ ?_ ?_) <;> simp [b_or, b_and, b_xor, b_0, bc_67108862, bc_67108863, bc_1, zb]
theorem isb0 (v : Int32) : (((v >>> ((0 : Int32) &&& 31)) &&& (1 : Int32)) = (1 : Int32)) ↔ bt v 0 = true := by
  constructor
  · intro h
    have e := congrArg (fun z => bt z 0) h
    simpa [b_and, b_r0, bc_1] using e
  · intro h
    refine b_ext (b_all ?_ ?_ ?_ ?_ ?_ ?_ ?_ ?_ ?_ ?_ ?_ ?_ ?_ ?_ ?_ ?_ ?_ ?_ ?_ ?_ ?_ ?_ ?_ ?_ ?_ ?_ ?_ ?_ ?_ ?_ ?_ ?_) <;> simp [b_or, b_and, b_xor, b_0, b_r0, bc_1, h]
theorem isb1 (v : Int32) : (((v >>> ((1 : Int32) &&& 31)) &&& (1 : Int32)) = (1 : Int32)) ↔ bt v 1 = true := by
  constructor
  · intro h
    have e := congrArg (fun z => bt z 0) h
    simpa [b_and, b_r1, bc_1] using e
  · intro h
    refine b_ext (b_all ?_ ?_ ?_ ?_ ?_ ?_ ?_ ?_ ?_ ?_ ?_ ?_ ?_ ?_ ?_ ?_ ?_ ?_ ?_ ?_ ?_ ?_ ?_ ?_ ?_ ?_ ?_ ?_ ?_ ?_ ?_ ?_) <;> simp [b_or, b_and, b_xor, b_0, b_r1, bc_1, h]
theorem isb4 (v : Int32) : (((v >>> ((4 : Int32) &&& 31)) &&& (1 : Int32)) = (1 : Int32)) ↔ bt v 4 = true := by
  constructor
  · intro h
    have e := congrArg (fun z => bt z 0) h
    simpa [b_and, b_r4, bc_1] using e
  · intro h
    refine b_ext (b_all ?_ ?_ ?_ ?_ ?_ ?_ ?_ ?_ ?_ ?_ ?_ ?_ ?_ ?_ ?_ ?_ ?_ ?_ ?_ ?_ ?_ ?_ ?_ ?_ ?_ ?_ ?_ ?_ ?_ ?_ ?_ ?_) <;> simp [b_or, b_and, b_xor, b_0, b_r4, bc_1, h]
theorem isb28 (v : Int32) : (((v >>> ((28 : Int32) &&& 31)) &&& (1 : Int32)) = (1 : Int32)) ↔ bt v 28 = true := by
  constructor
  · intro h
    have e := congrArg (fun z => bt z 0) h
    simpa [b_and, b_r28, bc_1] using e
  · intro h
    refine b_ext (b_all ?_ ?_ ?_ ?_ ?_ ?_ ?_ ?_ ?_ ?_ ?_ ?_ ?_ ?_ ?_ ?_ ?_ ?_ ?_ ?_ ?_ ?_ ?_ ?_ ?_ ?_ ?_ ?_ ?_ ?_ ?_ ?_) <;> simp [b_or, b_and, b_xor, b_0, b_r28, bc_1, h]
theorem fl18 (v : Int32) : ((v &&& (18 : Int32)) = (16 : Int32)) ↔ (bt v 4 = true ∧ bt v 1 = false) := by
  constructor
  · intro h
    have e := congrArg (fun z => bt z 4) h
    have e2 := congrArg (fun z => bt z 1) h
    exact ⟨by simpa [b_and, bc_18, bc_16] using e, by simpa [b_and, bc_18, bc_16] using e2⟩
  · rintro ⟨h, h2⟩
    refine b_ext (b_all ?_ ?_ ?_ ?_ ?_ ?_ ?_ ?_ ?_ ?_ ?_ ?_ ?_ ?_ ?_ ?_ ?_ ?_ ?_ ?_ ?_ ?_ ?_ ?_ ?_ ?_ ?_ ?_ ?_ ?_ ?_ ?_) <;> simp [b_or, b_and, b_xor, b_0, bc_18, bc_16, h, h2]
theorem fl3 (v : Int32) : ((v &&& (3 : Int32)) = (1 : Int32)) ↔ (bt v 0 = true ∧ bt v 1 = false) := by
  constructor
  · intro h
    have e := congrArg (fun z => bt z 0) h
    have e2 := congrArg (fun z => bt z 1) h
    exact ⟨by simpa [b_and, bc_3, bc_1] using e, by simpa [b_and, bc_3, bc_1] using e2⟩
  · rintro ⟨h, h2⟩
    refine b_ext (b_all ?_ ?_ ?_ ?_ ?_ ?_ ?_ ?_ ?_ ?_ ?_ ?_ ?_ ?_ ?_ ?_ ?_ ?_ ?_ ?_ ?_ ?_ ?_ ?_ ?_ ?_ ?_ ?_ ?_ ?_ ?_ ?_) <;> simp [b_or, b_and, b_xor, b_0, bc_3, bc_1, h, h2]
theorem fz1 (v : Int32) : ((v &&& (2 : Int32)) = 0) ↔ bt v 1 = false := by
  constructor
  · intro h
    have e := congrArg (fun z => bt z 1) h
    simpa [b_and, bc_2, b_0] using e
  · intro h
    refine b_ext (b_all ?_ ?_ ?_ ?_ ?_ ?_ ?_ ?_ ?_ ?_ ?_ ?_ ?_ ?_ ?_ ?_ ?_ ?_ ?_ ?_ ?_ ?_ ?_ ?_ ?_ ?_ ?_ ?_ ?_ ?_ ?_ ?_) <;> simp [b_or, b_and, b_xor, b_0, bc_2, h]
theorem fz28 (v : Int32) : ((v &&& (268435456 : Int32)) = 0) ↔ bt v 28 = false := by
  constructor
  · intro h
    have e := congrArg (fun z => bt z 28) h
    simpa [b_and, bc_268435456, b_0] using e
  · intro h
    refine b_ext (b_all ?_ ?_ ?_ ?_ ?_ ?_ ?_ ?_ ?_ ?_ ?_ ?_ ?_ ?_ ?_ ?_ ?_ ?_ ?_ ?_ ?_ ?_ ?_ ?_ ?_ ?_ ?_ ?_ ?_ ?_ ?_ ?_) <;> simp [b_or, b_and, b_xor, b_0, bc_268435456, h]
theorem fz2 (v : Int32) : ((v &&& (4 : Int32)) = 0) ↔ bt v 2 = false := by
  constructor
  · intro h
    have e := congrArg (fun z => bt z 2) h
    simpa [b_and, bc_4, b_0] using e
  · intro h
    refine b_ext (b_all ?_ ?_ ?_ ?_ ?_ ?_ ?_ ?_ ?_ ?_ ?_ ?_ ?_ ?_ ?_ ?_ ?_ ?_ ?_ ?_ ?_ ?_ ?_ ?_ ?_ ?_ ?_ ?_ ?_ ?_ ?_ ?_) <;> simp [b_or, b_and, b_xor, b_0, bc_4, h]
theorem fz4 (v : Int32) : ((v &&& (16 : Int32)) = 0) ↔ bt v 4 = false := by
  constructor
  · intro h
    have e := congrArg (fun z => bt z 4) h
    simpa [b_and, bc_16, b_0] using e
  · intro h
    refine b_ext (b_all ?_ ?_ ?_ ?_ ?_ ?_ ?_ ?_ ?_ ?_ ?_ ?_ ?_ ?_ ?_ ?_ ?_ ?_ ?_ ?_ ?_ ?_ ?_ ?_ ?_ ?_ ?_ ?_ ?_ ?_ ?_ ?_) <;> simp [b_or, b_and, b_xor, b_0, bc_16, h]
