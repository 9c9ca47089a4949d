/-! Long.bitCount, numberOfTrailingZeros, numberOfLeadingZeros, Integer's too. -/
def rep (c : Nat) : Nat → Nat
  | 0 => 0
  | m + 1 => c + 256 * rep c m
theorem and_st {a b c d : Nat} (ha : a < 256) (hc : c < 256) : (a + 256 * b) &&& (c + 256 * d) = (a &&& c) + 256 * (b &&& d) := by
  have h1 : ((a + 256 * b) &&& (c + 256 * d)) % 2 ^ 8 = a &&& c := by
    rw [Nat.and_mod_two_pow]
    congr 1 <;> omega
  have h2 : ((a + 256 * b) &&& (c + 256 * d)) / 2 ^ 8 = b &&& d := by
    rw [Nat.and_div_two_pow]
    congr 1 <;> omega
  omega
def B1 (m n : Nat) : Nat := n - (n / 2 &&& rep 85 m)
def B2 (m n : Nat) : Nat := (n &&& rep 51 m) + (n / 4 &&& rep 51 m)
def B3 (m n : Nat) : Nat := (n + n / 16) &&& rep 15 m
def s1 (d : Nat) : Nat := d - (d / 2 &&& 85)
def s2 (d : Nat) : Nat := (d &&& 51) + (d / 4 &&& 51)
def pc8 (d : Nat) : Nat := (s2 (s1 d) + s2 (s1 d) / 16) &&& 15
theorem s1_a : ∀ d, d < 256 → ∀ c, c < 2 → (d / 2 + 128 * c) &&& 85 = d / 2 &&& 85 := by decide +kernel
theorem s1_b : ∀ d, d < 256 → (d / 2 &&& 85) ≤ d ∧ s1 d < 256 := by decide +kernel
theorem s2_a : ∀ d, d < 256 → ∀ c, c < 4 → (d / 4 + 64 * c) &&& 51 = d / 4 &&& 51 := by decide +kernel
theorem s2_b : ∀ d, d < 256 → s2 (s1 d) < 256 ∧ s2 (s1 d) % 16 ≤ 4 := by decide +kernel
theorem s3_a : ∀ d, d < 256 → ∀ c, c < 5 → s2 (s1 d) + s2 (s1 d) / 16 + 16 * c < 256 ∧ (s2 (s1 d) + s2 (s1 d) / 16 + 16 * c) &&& 15 = pc8 d := by decide +kernel
theorem pc8_ct : ∀ d, d < 256 → pc8 d = ct (fun i => d.testBit i) 8 := by decide +kernel
theorem B1_st {m d y : Nat} (hd : d < 256) : B1 (m + 1) (d + 256 * y) = s1 d + 256 * B1 m y := by
  unfold B1
  rw [show (d + 256 * y) / 2 = (d / 2 + 128 * (y % 2)) + 256 * (y / 2) by omega, rep, and_st (by omega) (by omega), s1_a d hd (y % 2) (by omega)]
  have h1 := (s1_b d hd).1
  have h2 : (y / 2 &&& rep 85 m) ≤ y := Nat.le_trans Nat.and_le_left (Nat.div_le_self _ _)
  unfold s1
  omega
theorem B2_st {m d y : Nat} (hd : d < 256) : B2 (m + 1) (d + 256 * y) = s2 d + 256 * B2 m y := by
  unfold B2
  rw [show (d + 256 * y) / 4 = (d / 4 + 64 * (y % 4)) + 256 * (y / 4) by omega, rep, and_st (by omega) (by omega), and_st (by omega) (by omega), s2_a d hd (y % 4) (by omega)]
  unfold s2
  omega
theorem B21_16 (m y : Nat) : B2 m (B1 m y) % 16 ≤ 4 := by
  cases m with
  | zero => simp [B2, rep]
  | succ m =>
    have e : y = y % 256 + 256 * (y / 256) := by omega
    rw [e, B1_st (by omega), B2_st (s1_b _ (by omega)).2]
    have := (s2_b (y % 256) (by omega)).2
    omega
def BT (m n : Nat) : Nat := B3 m (B2 m (B1 m n))
theorem BT_st {m d y : Nat} (hd : d < 256) : BT (m + 1) (d + 256 * y) = pc8 d + 256 * BT m y := by
  unfold BT
  rw [B1_st hd, B2_st (s1_b d hd).2]
  have h16 := B21_16 m y
  generalize B2 m (B1 m y) = z at h16 ⊢
  have h3 := s3_a d hd (z % 16) (by omega)
  have h4 := (s2_b d hd).1
  unfold B3
  rw [show s2 (s1 d) + 256 * z + (s2 (s1 d) + 256 * z) / 16 = (s2 (s1 d) + s2 (s1 d) / 16 + 16 * (z % 16)) + 256 * (z + z / 16) by omega, rep, and_st h3.1 (by omega), h3.2]
theorem ct_byte (n : Nat) (m : Nat) : ct (fun i => n.testBit i) (8 * (m + 1)) = ct (fun i => (n % 256).testBit i) 8 + ct (fun i => (n / 256).testBit i) (8 * m) := by
  rw [show 8 * (m + 1) = 8 + 8 * m by omega, ct_add]
  congr 1
  · refine ct_cong (fun i hi => ?_)
    rw [show (256 : Nat) = 2 ^ 8 from rfl, Nat.testBit_mod_two_pow]
    simp [hi]
  · refine ct_cong (fun i hi => ?_)
    rw [show (256 : Nat) = 2 ^ 8 from rfl, Nat.testBit_div_two_pow, Nat.add_comm]
theorem BT_sum (n : Nat) : ∃ p0 p1 p2 p3 p4 p5 p6 p7, (p0 ≤ 8 ∧ p1 ≤ 8 ∧ p2 ≤ 8 ∧ p3 ≤ 8 ∧ p4 ≤ 8 ∧ p5 ≤ 8 ∧ p6 ≤ 8 ∧ p7 ≤ 8) ∧ BT 8 n = p0 + 256 * (p1 + 256 * (p2 + 256 * (p3 + 256 * (p4 + 256 * (p5 + 256 * (p6 + 256 * p7)))))) ∧ ct (fun i => n.testBit i) 64 = p0 + (p1 + (p2 + (p3 + (p4 + (p5 + (p6 + p7)))))) := by
  have key : ∀ m n, BT (m + 1) n = ct (fun i => (n % 256).testBit i) 8 + 256 * BT m (n / 256) := by
    intro m n
    have e : n = n % 256 + 256 * (n / 256) := by omega
    have := BT_st (m := m) (d := n % 256) (y := n / 256) (by omega)
    rw [← e, pc8_ct _ (by omega)] at this
    exact this
  have h0 : ∀ n, BT 0 n = 0 := fun n => by simp [BT, B3, rep]
  have hl : ∀ d, ct (fun i => (d % 256).testBit i) 8 ≤ 8 := fun d => ct_le _ 8
  refine ⟨_, _, _, _, _, _, _, _, ⟨hl n, hl (n / 256), hl (n / 256 / 256), hl (n / 256 / 256 / 256), hl (n / 256 / 256 / 256 / 256), hl (n / 256 / 256 / 256 / 256 / 256), hl (n / 256 / 256 / 256 / 256 / 256 / 256), hl (n / 256 / 256 / 256 / 256 / 256 / 256 / 256)⟩, ?_, ?_⟩
  · rw [key 7, key 6, key 5, key 4, key 3, key 2, key 1, key 0, h0, Nat.mul_zero, Nat.add_zero]
  · rw [show (64 : Nat) = 8 * (7 + 1) from rfl, ct_byte (n) 7, ct_byte (n / 256) 6, ct_byte (n / 256 / 256) 5, ct_byte (n / 256 / 256 / 256) 4, ct_byte (n / 256 / 256 / 256 / 256) 3, ct_byte (n / 256 / 256 / 256 / 256 / 256) 2, ct_byte (n / 256 / 256 / 256 / 256 / 256 / 256) 1, ct_byte (n / 256 / 256 / 256 / 256 / 256 / 256 / 256) 0, show ct (fun i => (n / 256 / 256 / 256 / 256 / 256 / 256 / 256 / 256).testBit i) (8 * 0) = 0 from rfl, Nat.add_zero]
/-- an unsigned shift -/
def ush (x : Int64) (k : Nat) : Int64 := (x.toUInt64 >>> ((nI k).toInt64.toUInt64 &&& Int64.toUInt64 63)).toInt64
theorem ush_nat {x : Int64} {k : Nat} (hk : k < 64) : (ush x k).toBitVec.toNat = x.toBitVec.toNat / 2 ^ k := by
  show (x.toUInt64 >>> ((nI k).toInt64.toUInt64 &&& Int64.toUInt64 63)).toBitVec.toNat = _
  rw [UInt64.toBitVec_shiftRight, BitVec.ushiftRight_eq', bu_cnt k hk, BitVec.toNat_ushiftRight, Nat.shiftRight_eq_div_pow]
  rfl
def b1 (x : Int64) : Int64 := x - (ush x 1 &&& 6148914691236517205)
def b2 (x : Int64) : Int64 := (x &&& 3689348814741910323) + (ush x 2 &&& 3689348814741910323)
def b3 (x : Int64) : Int64 := (x + ush x 4) &&& 1085102592571150095
def b4 (x : Int64) (k : Nat) : Int64 := x + ush x k
theorem b1_nat {x : Int64} : (b1 x).toBitVec.toNat = B1 8 x.toBitVec.toNat := by
  unfold b1 B1
  rw [Int64.toBitVec_sub, BitVec.toNat_sub, Int64.toBitVec_and, BitVec.toNat_and, ush_nat (by decide), show (6148914691236517205 : Int64).toBitVec.toNat = rep 85 8 by decide]
  have h1 : (x.toBitVec.toNat / 2 ^ 1 &&& rep 85 8) ≤ x.toBitVec.toNat := Nat.le_trans Nat.and_le_left (Nat.div_le_self _ _)
  have h2 := x.toBitVec.isLt
  generalize (x.toBitVec.toNat / 2 ^ 1 &&& rep 85 8) = z at h1 ⊢
  show (2 ^ 64 - z + x.toBitVec.toNat) % 2 ^ 64 = x.toBitVec.toNat - z
  omega
theorem b2_nat {x : Int64} : (b2 x).toBitVec.toNat = B2 8 x.toBitVec.toNat := by
  unfold b2 B2
  rw [Int64.toBitVec_add, BitVec.toNat_add, Int64.toBitVec_and, BitVec.toNat_and, Int64.toBitVec_and, BitVec.toNat_and, ush_nat (by decide), show (3689348814741910323 : Int64).toBitVec.toNat = rep 51 8 by decide]
  have h1 : (x.toBitVec.toNat / 2 ^ 2 &&& rep 51 8) ≤ rep 51 8 := Nat.and_le_right
  have h2 : (x.toBitVec.toNat &&& rep 51 8) ≤ rep 51 8 := Nat.and_le_right
  have h3 : rep 51 8 < 2 ^ 63 := by decide
  exact Nat.mod_eq_of_lt (by omega)
theorem b3_nat {x : Int64} (h : x.toBitVec.toNat < 2 ^ 63) : (b3 x).toBitVec.toNat = B3 8 x.toBitVec.toNat := by
  unfold b3 B3
  rw [Int64.toBitVec_and, BitVec.toNat_and, Int64.toBitVec_add, BitVec.toNat_add, ush_nat (by decide), show (1085102592571150095 : Int64).toBitVec.toNat = rep 15 8 by decide]
  rw [Nat.mod_eq_of_lt (by omega)]
theorem b4_nat {x : Int64} {k : Nat} (hk : k < 64) (h : x.toBitVec.toNat < 2 ^ 63) : (b4 x k).toBitVec.toNat = x.toBitVec.toNat + x.toBitVec.toNat / 2 ^ k := by
  unfold b4
  rw [Int64.toBitVec_add, BitVec.toNat_add, ush_nat hk]
  have : x.toBitVec.toNat / 2 ^ k ≤ x.toBitVec.toNat := Nat.div_le_self _ _
  rw [Nat.mod_eq_of_lt (by omega)]
theorem l2i_and {x : Int64} : x.toInt32 &&& nI 127 = nI (x.toBitVec.toNat % 128) := by
  rw [pk_and _ 7 (by decide)]
  congr 1
  rw [Int64.toBitVec_toInt32, BitVec.signExtend_eq_setWidth_of_le _ (by decide), BitVec.toNat_setWidth]
  omega
theorem dq8 {D Q : Nat} (h : D < 256) : (D + 256 * Q) / 2 ^ 8 = Q := by omega
theorem dq16 {D Q : Nat} (h : D < 65536) : (D + 65536 * Q) / 2 ^ 16 = Q := by omega
theorem dq32 {D Q : Nat} (h : D < 4294967296) : (D + 4294967296 * Q) / 2 ^ 32 = Q := by omega
theorem bs_r {p R b : Nat} (hp : p ≤ 8) (hR : R < b) : p + 256 * R < 256 * b := by omega
/-- the bytes' counts, and what stands behind each -/
theorem bsum {p0 p1 p2 p3 p4 p5 p6 p7 R1 R2 R3 R4 R5 R6 N : Nat} (h0 : p0 ≤ 8) (h1 : p1 ≤ 8) (h2 : p2 ≤ 8) (h3 : p3 ≤ 8) (h4 : p4 ≤ 8) (h5 : p5 ≤ 8) (h6 : p6 ≤ 8) (h7 : p7 ≤ 8) (e6 : R6 = p6 + 256 * p7) (e5 : R5 = p5 + 256 * R6) (e4 : R4 = p4 + 256 * R5) (e3 : R3 = p3 + 256 * R4) (e2 : R2 = p2 + 256 * R3) (e1 : R1 = p1 + 256 * R2) (e0 : N = p0 + 256 * R1) :
    (N < 2 ^ 60 ∧ N / 2 ^ 8 = R1) ∧ (N + R1 < 2 ^ 61 ∧ (N + R1) / 2 ^ 16 = R2 + R3) ∧ (N + R1 + (R2 + R3) < 2 ^ 62 ∧ (N + R1 + (R2 + R3)) / 2 ^ 32 = R4 + R5 + R6 + p7) ∧ (N + R1 + (R2 + R3) + (R4 + R5 + R6 + p7)) % 128 = p0 + (p1 + (p2 + (p3 + (p4 + (p5 + (p6 + p7)))))) := by
  have b7 : p7 < 16 := by omega
  have b6 : R6 < 16 * 256 := by clear e5 e4 e3 e2 e1 e0; omega
  have b5 : R5 < 16 * 256 * 256 := by clear e6 e4 e3 e2 e1 e0; omega
  have b4 : R4 < 16 * 256 * 256 * 256 := by clear e6 e5 e3 e2 e1 e0; omega
  have b3 : R3 < 16 * 256 * 256 * 256 * 256 := by clear e6 e5 e4 e2 e1 e0; omega
  have b2 : R2 < 16 * 256 * 256 * 256 * 256 * 256 := by clear e6 e5 e4 e3 e1 e0; omega
  have b1 : R1 < 16 * 256 * 256 * 256 * 256 * 256 * 256 := by clear e6 e5 e4 e3 e2 e0; omega
  have b0 : N < 16 * 256 * 256 * 256 * 256 * 256 * 256 * 256 := by clear e6 e5 e4 e3 e2 e1; omega
  refine ⟨⟨by clear e6 e5 e4 e3 e2 e1 e0; omega, by rw [e0]; exact dq8 (by omega)⟩, ⟨by clear e6 e5 e4 e3 e2 e1 e0; omega, ?_⟩, ⟨by clear e6 e5 e4 e3 e2 e1 e0; omega, ?_⟩, ?_⟩
  · have : N + R1 = ((p0 + p1) + 256 * (p1 + p2)) + 65536 * (R2 + R3) := by clear e6 e5 e4 e3 b0 b1 b2 b3 b4 b5 b6 b7; omega
    rw [this]
    exact dq16 (by clear e6 e5 e4 e3 e2 e1 e0 b0 b1 b2 b3 b4 b5 b6 b7 this; omega)
  · have : N + R1 + (R2 + R3) = ((p0 + p1 + p2 + p3) + 256 * ((p1 + p2 + p3 + p4) + 256 * ((p2 + p3 + p4 + p5) + 256 * (p3 + p4 + p5 + p6)))) + 4294967296 * (R4 + R5 + R6 + p7) := by
      clear b0 b1 b2 b3 b4 b5 b6 b7 h0 h1 h2 h3 h4 h5 h6 h7
      subst e6 e5 e4 e3 e2 e1 e0
      omega
    rw [this]
    refine dq32 ?_
    clear e6 e5 e4 e3 e2 e1 e0 b0 b1 b2 b3 b4 b5 b6 b7 this
    omega
  · have : N + R1 + (R2 + R3) + (R4 + R5 + R6 + p7) = (p0 + (p1 + (p2 + (p3 + (p4 + (p5 + (p6 + p7))))))) + 256 * (R1 + R2 + R3 + R4 + R5 + R6 + p7) := by
      clear b0 b1 b2 b3 b4 b5 b6 b7 h0 h1 h2 h3 h4 h5 h6 h7
      omega
    rw [this]
    clear e6 e5 e4 e3 e2 e1 e0 b0 b1 b2 b3 b4 b5 b6 b7 this
    omega
theorem bc_main (x : Int64) : (b4 (b4 (b4 (b3 (b2 (b1 x))) 8) 16) 32).toInt32 &&& nI 127 = nI (ct (fun i => x.toBitVec.getLsbD i) 64) := by
  obtain ⟨p0, p1, p2, p3, p4, p5, p6, p7, ⟨h0, h1, h2, h3, h4, h5, h6, h7⟩, hB, hc⟩ := BT_sum x.toBitVec.toNat
  have hb2 : (b2 (b1 x)).toBitVec.toNat < 2 ^ 63 := by
    clear hB hc h0 h1 h2 h3 h4 h5 h6 h7
    rw [b2_nat]
    unfold B2
    have h1 : ((b1 x).toBitVec.toNat / 4 &&& rep 51 8) ≤ rep 51 8 := Nat.and_le_right
    have h2 : ((b1 x).toBitVec.toNat &&& rep 51 8) ≤ rep 51 8 := Nat.and_le_right
    have h3 : rep 51 8 < 2 ^ 62 := by decide
    omega
  have e3 : (b3 (b2 (b1 x))).toBitVec.toNat = BT 8 x.toBitVec.toNat := by
    rw [b3_nat hb2, b2_nat, b1_nat]
    rfl
  rw [hB] at e3
  obtain ⟨⟨c1, c2⟩, ⟨c3, c4⟩, ⟨c5, c6⟩, c7⟩ := bsum h0 h1 h2 h3 h4 h5 h6 h7 rfl rfl rfl rfl rfl rfl e3
  have k4 := b4_nat (x := b3 (b2 (b1 x))) (k := 8) (by decide) (Nat.lt_trans c1 (by decide))
  rw [c2] at k4
  have k5 := b4_nat (x := b4 (b3 (b2 (b1 x))) 8) (k := 16) (by decide) (by rw [k4]; exact Nat.lt_trans c3 (by decide))
  rw [k4, c4] at k5
  have k6 := b4_nat (x := b4 (b4 (b3 (b2 (b1 x))) 8) 16) (k := 32) (by decide) (by rw [k5]; exact Nat.lt_trans c5 (by decide))
  rw [k5, c6] at k6
  rw [l2i_and, k6, c7, show ct (fun i => x.toBitVec.getLsbD i) 64 = ct (fun i => x.toBitVec.toNat.testBit i) 64 from rfl, hc]
abbrev rm_J13_bitCount_95d88 : Room := { frames := 0, cells := 0, slots := 0, locals := 0 }
theorem yd_J13_bitCount_95d88 : yJ13_bitCount_95d88.cls = RJ13 ∧ yJ13_bitCount_95d88.cls ≠ "java/lang/invoke/MethodHandle" ∧ yJ13_bitCount_95d88.cls ≠ "java/lang/invoke/VarHandle" ∧ (parseMethodDescriptor yJ13_bitCount_95d88.desc).map (fun d => d.parameters.length) = some 1 := by decide +kernel
set_option maxHeartbeats 4000000 in
set_option maxRecDepth 100000 in
theorem kt_J13_bitCount_95d88 (l : Launch) (x0 : Int64)  : SMi l yJ13_bitCount_95d88 wsJ13_bitCount_95d88 rm_J13_bitCount_95d88 [.long x0] (fun (r : Int32) => r = (nI (ct (fun i => x0.toBitVec.getLsbD i) 64))) := by
  refine SMi_of (lv := [(0, .long x0)]) (cc := cJ13_bitCount_95d88) (maxL := 2) (ret := (some .int)) rfl (by decide +kernel) (Nat.le_of_ble_eq_true rfl) rfl ?_
  intro p e s m args below meth c hc hts hown hml hr hlk
  have X : (p.tables.exec = Jvm.exec ∧ c.code = cJ13_bitCount_95d88) ∧ True := ⟨hc, trivial⟩
  generalize hQ : MQ below _ args s 0 0 _ = Q
  refine zz_lload_n 0 X.1 0 dJ13_bitCount_95d88_0 rfl ?_
  refine zz_lload_n 1 X.1 0 dJ13_bitCount_95d88_1 rfl ?_
  refine zz_iconst 2 X.1 (v := nI 1) dJ13_bitCount_95d88_2 rfl ?_
  refine zz_lushr 3 X.1 (v := ush x0 1) dJ13_bitCount_95d88_3 rfl ?_
  refine zz_ldc2 4 X.1 (v := 6148914691236517205) dJ13_bitCount_95d88_4 hown (by exact hts _ (by decide +kernel)) ?_
  refine zz_land 7 X.1 (v := (ush x0 1) &&& (6148914691236517205 : Int64)) dJ13_bitCount_95d88_7 rfl ?_
  refine zz_lsub 8 X.1 (v := b1 x0) dJ13_bitCount_95d88_8 rfl ?_
  refine zz_lstore_n 9 X.1 (lv' := [(0, .long (b1 x0))]) dJ13_bitCount_95d88_9 (by decide) rfl ?_
  refine zz_lload_n 10 X.1 0 dJ13_bitCount_95d88_10 rfl ?_
  refine zz_ldc2 11 X.1 (v := 3689348814741910323) dJ13_bitCount_95d88_11 hown (by exact hts _ (by decide +kernel)) ?_
  refine zz_land 14 X.1 (v := (b1 x0) &&& (3689348814741910323 : Int64)) dJ13_bitCount_95d88_14 rfl ?_
  refine zz_lload_n 15 X.1 0 dJ13_bitCount_95d88_15 rfl ?_
  refine zz_iconst 16 X.1 (v := nI 2) dJ13_bitCount_95d88_16 rfl ?_
  refine zz_lushr 17 X.1 (v := ush (b1 x0) 2) dJ13_bitCount_95d88_17 rfl ?_
  refine zz_ldc2 18 X.1 (v := 3689348814741910323) dJ13_bitCount_95d88_18 hown (by exact hts _ (by decide +kernel)) ?_
  refine zz_land 21 X.1 (v := (ush (b1 x0) 2) &&& (3689348814741910323 : Int64)) dJ13_bitCount_95d88_21 rfl ?_
  refine zz_ladd 22 X.1 (v := b2 (b1 x0)) dJ13_bitCount_95d88_22 rfl ?_
  refine zz_lstore_n 23 X.1 (lv' := [(0, .long (b2 (b1 x0)))]) dJ13_bitCount_95d88_23 (by decide) rfl ?_
  refine zz_lload_n 24 X.1 0 dJ13_bitCount_95d88_24 rfl ?_
  refine zz_lload_n 25 X.1 0 dJ13_bitCount_95d88_25 rfl ?_
  refine zz_iconst 26 X.1 (v := nI 4) dJ13_bitCount_95d88_26 rfl ?_
  refine zz_lushr 27 X.1 (v := ush (b2 (b1 x0)) 4) dJ13_bitCount_95d88_27 rfl ?_
  refine zz_ladd 28 X.1 (v := (b2 (b1 x0)) + (ush (b2 (b1 x0)) 4)) dJ13_bitCount_95d88_28 rfl ?_
  refine zz_ldc2 29 X.1 (v := 1085102592571150095) dJ13_bitCount_95d88_29 hown (by exact hts _ (by decide +kernel)) ?_
  refine zz_land 32 X.1 (v := b3 (b2 (b1 x0))) dJ13_bitCount_95d88_32 rfl ?_
  refine zz_lstore_n 33 X.1 (lv' := [(0, .long (b3 (b2 (b1 x0))))]) dJ13_bitCount_95d88_33 (by decide) rfl ?_
  refine zz_lload_n 34 X.1 0 dJ13_bitCount_95d88_34 rfl ?_
  refine zz_lload_n 35 X.1 0 dJ13_bitCount_95d88_35 rfl ?_
  refine zz_bipush 36 X.1 (v := nI 8) dJ13_bitCount_95d88_36 rfl ?_
  refine zz_lushr 38 X.1 (v := ush (b3 (b2 (b1 x0))) 8) dJ13_bitCount_95d88_38 rfl ?_
  refine zz_ladd 39 X.1 (v := b4 (b3 (b2 (b1 x0))) 8) dJ13_bitCount_95d88_39 rfl ?_
  refine zz_lstore_n 40 X.1 (lv' := [(0, .long (b4 (b3 (b2 (b1 x0))) 8))]) dJ13_bitCount_95d88_40 (by decide) rfl ?_
  refine zz_lload_n 41 X.1 0 dJ13_bitCount_95d88_41 rfl ?_
  refine zz_lload_n 42 X.1 0 dJ13_bitCount_95d88_42 rfl ?_
  refine zz_bipush 43 X.1 (v := nI 16) dJ13_bitCount_95d88_43 rfl ?_
  refine zz_lushr 45 X.1 (v := ush (b4 (b3 (b2 (b1 x0))) 8) 16) dJ13_bitCount_95d88_45 rfl ?_
  refine zz_ladd 46 X.1 (v := b4 (b4 (b3 (b2 (b1 x0))) 8) 16) dJ13_bitCount_95d88_46 rfl ?_
  refine zz_lstore_n 47 X.1 (lv' := [(0, .long (b4 (b4 (b3 (b2 (b1 x0))) 8) 16))]) dJ13_bitCount_95d88_47 (by decide) rfl ?_
  refine zz_lload_n 48 X.1 0 dJ13_bitCount_95d88_48 rfl ?_
  refine zz_lload_n 49 X.1 0 dJ13_bitCount_95d88_49 rfl ?_
  refine zz_bipush 50 X.1 (v := nI 32) dJ13_bitCount_95d88_50 rfl ?_
  refine zz_lushr 52 X.1 (v := ush (b4 (b4 (b3 (b2 (b1 x0))) 8) 16) 32) dJ13_bitCount_95d88_52 rfl ?_
  refine zz_ladd 53 X.1 (v := b4 (b4 (b4 (b3 (b2 (b1 x0))) 8) 16) 32) dJ13_bitCount_95d88_53 rfl ?_
  refine zz_lstore_n 54 X.1 (lv' := [(0, .long (b4 (b4 (b4 (b3 (b2 (b1 x0))) 8) 16) 32))]) dJ13_bitCount_95d88_54 (by decide) rfl ?_
  refine zz_lload_n 55 X.1 0 dJ13_bitCount_95d88_55 rfl ?_
  refine zz_l2i 56 X.1 (v := ((b4 (b4 (b4 (b3 (b2 (b1 x0))) 8) 16) 32).toInt32)) dJ13_bitCount_95d88_56 rfl ?_
  refine zz_bipush 57 X.1 (v := nI 127) dJ13_bitCount_95d88_57 rfl ?_
  refine zz_iand 59 X.1 (v := (nI (ct (fun i => x0.toBitVec.getLsbD i) 64))) dJ13_bitCount_95d88_59 (bc_main x0) ?_
  rw [← hQ]
  refine zz_iret 60 X.1 hr rfl hlk () ?_ (fun _ _ _ => trivial) dJ13_bitCount_95d88_60
  rfl
