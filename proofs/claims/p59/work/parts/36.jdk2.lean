theorem l2i_bit {y : Int64} {i : Nat} : y.toInt32.toBitVec.getLsbD i = (decide (i < 32) && y.toBitVec.getLsbD i) := by
  rw [Int64.toBitVec_toInt32, BitVec.signExtend_eq_setWidth_of_le _ (by decide), BitVec.getLsbD_setWidth]
theorem ush_bit {x : Int64} {k i : Nat} (hk : k < 64) : (ush x k).toBitVec.getLsbD i = x.toBitVec.getLsbD (k + i) := bu_bit x hk i
/-- its lowest bit is bit t -/
theorem tz_mask {x : Int32} {t : Nat} (ht : t < 32) (h1 : x.toBitVec.getLsbD t = true) (h2 : ∀ j, j < t → x.toBitVec.getLsbD j = false) : (x ^^^ (-1)) &&& (x - nI 1) = nI (2 ^ t - 1) := by
  have hm : x.toBitVec.toNat % 2 ^ t = 0 := by
    refine Nat.eq_of_testBit_eq (fun i => ?_)
    rw [Nat.testBit_mod_two_pow, Nat.zero_testBit]
    by_cases h : i < t
    · rw [show x.toBitVec.toNat.testBit i = x.toBitVec.getLsbD i from rfl, h2 i h]; simp
    · simp [h]
  have ho : x.toBitVec.toNat / 2 ^ t % 2 = 1 := by
    have : x.toBitVec.toNat.testBit t = true := h1
    rw [Nat.testBit_eq_decide_div_mod_eq] at this
    exact of_decide_eq_true this
  have hx : x.toBitVec.toNat = 2 ^ t * (2 * (x.toBitVec.toNat / 2 ^ t / 2) + 1) := by
    have e := Nat.div_add_mod x.toBitVec.toNat (2 ^ t)
    rw [hm, Nat.add_zero] at e
    rw [← show x.toBitVec.toNat / 2 ^ t = 2 * (x.toBitVec.toNat / 2 ^ t / 2) + 1 by omega]
    exact e.symm
  generalize x.toBitVec.toNat / 2 ^ t / 2 = w at hx
  have hpos : 0 < 2 ^ t := Nat.two_pow_pos t
  have hlt := x.toBitVec.isLt
  have hsub : (x - nI 1).toBitVec.toNat = 2 ^ t * (2 * w) + (2 ^ t - 1) := by
    rw [Int32.toBitVec_sub, BitVec.toNat_sub, show (nI 1).toBitVec.toNat = 1 from rfl]
    have e : 2 ^ t * (2 * w + 1) = 2 ^ t * (2 * w) + 2 ^ t := Nat.mul_succ _ _
    rw [e] at hx
    omega
  refine (Int32.toBitVec_inj).mp ?_
  refine BitVec.eq_of_getLsbD_eq (fun i hi => ?_)
  rw [Int32.toBitVec_and, BitVec.getLsbD_and, Int32.toBitVec_xor, BitVec.getLsbD_xor, show (-1 : Int32).toBitVec = BitVec.allOnes 32 from rfl, BitVec.getLsbD_allOnes]
  have hr : (nI (2 ^ t - 1)).toBitVec.getLsbD i = decide (i < t) := by
    show ((Int32.ofNat (2 ^ t - 1)).toBitVec.toNat).testBit i = _
    rw [Int32.toBitVec_ofNat', BitVec.toNat_ofNat, Nat.mod_eq_of_lt (by have := Nat.pow_lt_pow_right (a := 2) (by decide) ht; omega), Nat.testBit_two_pow_sub_one]
  rw [hr, show (x - nI 1).toBitVec.getLsbD i = (x - nI 1).toBitVec.toNat.testBit i from rfl, hsub, Nat.testBit_two_pow_mul_add _ (by omega)]
  rw [show x.toBitVec.getLsbD i = x.toBitVec.toNat.testBit i from rfl, hx]
  rw [show 2 ^ t * (2 * w + 1) = 2 ^ t * (2 * w + 1) + 0 from rfl, Nat.testBit_two_pow_mul_add _ hpos]
  by_cases h : i < t
  · simp [h, hi]
  · rw [if_neg h, if_neg h]
    rcases Nat.lt_or_ge t i with z | z
    · obtain ⟨g, hg⟩ : ∃ g, i - t = g + 1 := ⟨i - t - 1, by omega⟩
      rw [hg, Nat.testBit_succ, Nat.testBit_succ, show (2 * w + 1) / 2 = w by omega, show 2 * w / 2 = w by omega]
      simp [h, hi]
    · rw [show i - t = 0 by omega]
      simp [h]
theorem tz_lo {x : Int64} {t : Nat} (ht : t < 32) (h1 : x.toBitVec.getLsbD t = true) (h2 : ∀ j, j < t → x.toBitVec.getLsbD j = false) : x.toInt32.toBitVec.getLsbD t = true ∧ (∀ j, j < t → x.toInt32.toBitVec.getLsbD j = false) ∧ x.toInt32.toInt ≠ 0 := by
  have a : x.toInt32.toBitVec.getLsbD t = true := by rw [l2i_bit, h1]; simp [ht]
  refine ⟨a, fun j hj => by rw [l2i_bit, h2 j hj]; simp, fun z => ?_⟩
  have : x.toInt32 = 0 := (Int32.toInt_inj).mp z
  rw [this] at a
  simp at a
theorem z32 {y : Int32} (h : ∀ j, j < 32 → y.toBitVec.getLsbD j = false) : y.toInt = 0 := by
  have : y = 0 := (Int32.toBitVec_inj).mp (BitVec.eq_of_getLsbD_eq (fun i hi => by rw [h i hi]; simp))
  rw [this]
  rfl
theorem tz_hi {x : Int64} {t : Nat} (h0 : t < 64) (ht : 32 ≤ t) (h1 : x.toBitVec.getLsbD t = true) (h2 : ∀ j, j < t → x.toBitVec.getLsbD j = false) : (ush x 32).toInt32.toBitVec.getLsbD (t - 32) = true ∧ (∀ j, j < t - 32 → (ush x 32).toInt32.toBitVec.getLsbD j = false) ∧ x.toInt32.toInt = 0 := by
  refine ⟨by rw [l2i_bit, ush_bit (by decide), show 32 + (t - 32) = t by omega, h1]; simp; omega, fun j hj => by rw [l2i_bit, ush_bit (by decide), h2 _ (by omega)]; simp, z32 (fun j hj => by rw [l2i_bit, h2 j (by omega)]; simp)⟩
theorem lz_hi {x : Int64} {t : Nat} (h0 : t < 64) (ht : 32 ≤ t) (h1 : x.toBitVec.getLsbD t = true) (h2 : ∀ j, t < j → j < 64 → x.toBitVec.getLsbD j = false) : (ush x 32).toInt32.toBitVec.getLsbD (t - 32) = true ∧ (∀ j, t - 32 < j → j < 32 → (ush x 32).toInt32.toBitVec.getLsbD j = false) ∧ (ush x 32).toInt32.toInt ≠ 0 := by
  have a : (ush x 32).toInt32.toBitVec.getLsbD (t - 32) = true := by rw [l2i_bit, ush_bit (by decide), show 32 + (t - 32) = t by omega, h1]; simp; omega
  refine ⟨a, fun j hj hj2 => by rw [l2i_bit, ush_bit (by decide), h2 _ (by omega) (by omega)]; simp, fun z => ?_⟩
  have : (ush x 32).toInt32 = 0 := (Int32.toInt_inj).mp z
  rw [this] at a
  simp at a
theorem lz_lo {x : Int64} {t : Nat} (ht : t < 32) (h1 : x.toBitVec.getLsbD t = true) (h2 : ∀ j, t < j → j < 64 → x.toBitVec.getLsbD j = false) : x.toInt32.toBitVec.getLsbD t = true ∧ (∀ j, t < j → j < 32 → x.toInt32.toBitVec.getLsbD j = false) ∧ (ush x 32).toInt32.toInt = 0 :=
  ⟨by rw [l2i_bit, h1]; simp [ht], fun j hj hj2 => by rw [l2i_bit, h2 j hj (by omega)]; simp, z32 (fun j hj => by rw [l2i_bit, ush_bit (by decide), h2 _ (by omega) (by omega)]; simp)⟩
/-- its highest bit is bit t: below 31 it's a number -/
theorem lz_v {x : Int32} {t : Nat} (ht : t < 31) (h1 : x.toBitVec.getLsbD t = true) (h2 : ∀ j, t < j → j < 32 → x.toBitVec.getLsbD j = false) : ∃ v, x = nI v ∧ 2 ^ t ≤ v ∧ v < 2 ^ (t + 1) := by
  refine ⟨x.toBitVec.toNat, ?_, Nat.ge_two_pow_of_testBit h1, Nat.lt_pow_two_of_testBit _ (fun i hi => ?_)⟩
  · refine (Int32.toBitVec_inj).mp ?_
    show _ = (Int32.ofNat x.toBitVec.toNat).toBitVec
    rw [Int32.toBitVec_ofNat', BitVec.ofNat_toNat]
    simp
  · rcases Nat.lt_or_ge i 32 with z | z
    · exact h2 i hi z
    · exact BitVec.getLsbD_of_ge _ _ z
theorem lz_neg {x : Int32} (h1 : x.toBitVec.getLsbD 31 = true) : x.toInt < 0 := by
  have : x.toBitVec.msb = true := by rw [BitVec.msb_eq_getLsbD_last]; exact h1
  have h2 := BitVec.toInt_neg_of_msb_true this
  exact h2
abbrev rm_J6_numberOfTrailingZeros_0f7a4 : Room := { frames := 0, cells := 0, slots := 0, locals := 0 }
theorem yd_J6_numberOfTrailingZeros_0f7a4 : yJ6_numberOfTrailingZeros_0f7a4.cls = RJ6 ∧ yJ6_numberOfTrailingZeros_0f7a4.cls ≠ "java/lang/invoke/MethodHandle" ∧ yJ6_numberOfTrailingZeros_0f7a4.cls ≠ "java/lang/invoke/VarHandle" ∧ (parseMethodDescriptor yJ6_numberOfTrailingZeros_0f7a4.desc).map (fun d => d.parameters.length) = some 1 := by decide +kernel
set_option maxHeartbeats 4000000 in
set_option maxRecDepth 100000 in
theorem kt_J6_numberOfTrailingZeros_0f7a4 (l : Launch) (x0 : Int32) (t : Nat) (ht : t < 32) (h1 : x0.toBitVec.getLsbD t = true) (h2 : ∀ j, j < t → x0.toBitVec.getLsbD j = false) : SMi l yJ6_numberOfTrailingZeros_0f7a4 wsJ6_numberOfTrailingZeros_0f7a4 rm_J6_numberOfTrailingZeros_0f7a4 [.int x0] (fun (r : Int32) => r = (nI t)) := by
  refine SMi_of (lv := [(0, .int x0)]) (cc := cJ6_numberOfTrailingZeros_0f7a4) (maxL := 2) (ret := (some .int)) rfl (by decide +kernel) (Nat.le_of_ble_eq_true rfl) rfl ?_
  intro p e s m args below meth c hc hts hown hml hr hlk
  have X : (p.tables.exec = Jvm.exec ∧ c.code = cJ6_numberOfTrailingZeros_0f7a4) ∧ True := ⟨hc, trivial⟩
  generalize hQ : MQ below _ args s 0 0 _ = Q
  obtain ⟨v, hv⟩ : ∃ v, v = 2 ^ t - 1 := ⟨_, rfl⟩
  have hv2 : v < 2 ^ 31 := by
    rcases (show t = 0 ∨ t = 1 ∨ t = 2 ∨ t = 3 ∨ t = 4 ∨ t = 5 ∨ t = 6 ∨ t = 7 ∨ t = 8 ∨ t = 9 ∨ t = 10 ∨ t = 11 ∨ t = 12 ∨ t = 13 ∨ t = 14 ∨ t = 15 ∨ t = 16 ∨ t = 17 ∨ t = 18 ∨ t = 19 ∨ t = 20 ∨ t = 21 ∨ t = 22 ∨ t = 23 ∨ t = 24 ∨ t = 25 ∨ t = 26 ∨ t = 27 ∨ t = 28 ∨ t = 29 ∨ t = 30 ∨ t = 31 by omega) with rfl | rfl | rfl | rfl | rfl | rfl | rfl | rfl | rfl | rfl | rfl | rfl | rfl | rfl | rfl | rfl | rfl | rfl | rfl | rfl | rfl | rfl | rfl | rfl | rfl | rfl | rfl | rfl | rfl | rfl | rfl | rfl <;> omega
  refine zz_iload_n 0 X.1 0 dJ6_numberOfTrailingZeros_0f7a4_0 rfl ?_
  refine zz_iconst 1 X.1 (v := (-1)) dJ6_numberOfTrailingZeros_0f7a4_1 (by decide) ?_
  refine zz_ixor 2 X.1 (v := (x0 ^^^ (-1))) dJ6_numberOfTrailingZeros_0f7a4_2 rfl ?_
  refine zz_iload_n 3 X.1 0 dJ6_numberOfTrailingZeros_0f7a4_3 rfl ?_
  refine zz_iconst 4 X.1 (v := nI 1) dJ6_numberOfTrailingZeros_0f7a4_4 rfl ?_
  refine zz_isub 5 X.1 (v := (x0 - nI 1)) dJ6_numberOfTrailingZeros_0f7a4_5 rfl ?_
  refine zz_iand 6 X.1 (v := (nI v)) dJ6_numberOfTrailingZeros_0f7a4_6 ((tz_mask ht h1 h2).trans (congrArg nI hv.symm)) ?_
  refine zz_istore_n 7 X.1 (lv' := [(0, .int (nI v))]) dJ6_numberOfTrailingZeros_0f7a4_7 (by decide) rfl ?_
  refine zz_iload_n 8 X.1 0 dJ6_numberOfTrailingZeros_0f7a4_8 rfl ?_
  refine zz_if_gt 9 17 X.1 (nI_toInt (by omega)) dJ6_numberOfTrailingZeros_0f7a4_9 (by decide) (fun h9 => ?_) (fun h9 => ?_)
  · skip
    refine zz_iconst 17 X.1 (v := nI 1) dJ6_numberOfTrailingZeros_0f7a4_17 rfl ?_
    refine zz_istore_n 18 X.1 (lv' := [(1, .int (nI 1)), (0, .int (nI v))]) dJ6_numberOfTrailingZeros_0f7a4_18 (by decide) rfl ?_
    refine zz_iload_n 19 X.1 1 dJ6_numberOfTrailingZeros_0f7a4_19 rfl ?_
    refine zz_ldcw 20 X.1 (v := 65536) dJ6_numberOfTrailingZeros_0f7a4_20 hown (by exact hts _ (by decide +kernel)) ?_
    refine zz_topi (nI 65536) (by decide) ?_
    refine zz_icmp_le 23 34 X.1 (nI_toInt (by omega)) (nI_toInt (by omega)) dJ6_numberOfTrailingZeros_0f7a4_23 (by decide) (fun h23 => ?_) (fun h23 => ?_)
    · skip
      refine zz_iload_n 34 X.1 1 dJ6_numberOfTrailingZeros_0f7a4_34 rfl ?_
      refine zz_sipush 35 X.1 (v := nI 256) dJ6_numberOfTrailingZeros_0f7a4_35 rfl ?_
      refine zz_icmp_le 38 49 X.1 (nI_toInt (by omega)) (nI_toInt (by omega)) dJ6_numberOfTrailingZeros_0f7a4_38 (by decide) (fun h38 => ?_) (fun h38 => ?_)
      · skip
        refine zz_iload_n 49 X.1 1 dJ6_numberOfTrailingZeros_0f7a4_49 rfl ?_
        refine zz_bipush 50 X.1 (v := nI 16) dJ6_numberOfTrailingZeros_0f7a4_50 rfl ?_
        refine zz_icmp_le 52 62 X.1 (nI_toInt (by omega)) (nI_toInt (by omega)) dJ6_numberOfTrailingZeros_0f7a4_52 (by decide) (fun h52 => ?_) (fun h52 => ?_)
        · skip
          refine zz_iload_n 62 X.1 1 dJ6_numberOfTrailingZeros_0f7a4_62 rfl ?_
          refine zz_iconst 63 X.1 (v := nI 4) dJ6_numberOfTrailingZeros_0f7a4_63 rfl ?_
          refine zz_icmp_le 64 74 X.1 (nI_toInt (by omega)) (nI_toInt (by omega)) dJ6_numberOfTrailingZeros_0f7a4_64 (by decide) (fun h64 => ?_) (fun h64 => ?_)
          · skip
            refine zz_iload_n 74 X.1 0 dJ6_numberOfTrailingZeros_0f7a4_74 rfl ?_
            refine zz_iload_n 75 X.1 1 dJ6_numberOfTrailingZeros_0f7a4_75 rfl ?_
            refine zz_iconst 76 X.1 (v := nI 1) dJ6_numberOfTrailingZeros_0f7a4_76 rfl ?_
            refine zz_iushr 77 X.1 (v := (nI (v / 2))) dJ6_numberOfTrailingZeros_0f7a4_77 (pk_ushrN (by omega) _ 1 (by decide)) ?_
            refine zz_iadd 78 X.1 (v := (nI (1 + (v / 2)))) dJ6_numberOfTrailingZeros_0f7a4_78 (nI_add _ _) ?_
            rw [← hQ]
            refine zz_iret 79 X.1 hr rfl hlk () ?_ (fun _ _ _ => trivial) dJ6_numberOfTrailingZeros_0f7a4_79
            exact congrArg nI (by
              clear h1 h2
              rcases (show t = 0 ∨ t = 1 ∨ t = 2 ∨ t = 3 ∨ t = 4 ∨ t = 5 ∨ t = 6 ∨ t = 7 ∨ t = 8 ∨ t = 9 ∨ t = 10 ∨ t = 11 ∨ t = 12 ∨ t = 13 ∨ t = 14 ∨ t = 15 ∨ t = 16 ∨ t = 17 ∨ t = 18 ∨ t = 19 ∨ t = 20 ∨ t = 21 ∨ t = 22 ∨ t = 23 ∨ t = 24 ∨ t = 25 ∨ t = 26 ∨ t = 27 ∨ t = 28 ∨ t = 29 ∨ t = 30 ∨ t = 31 by omega) with rfl | rfl | rfl | rfl | rfl | rfl | rfl | rfl | rfl | rfl | rfl | rfl | rfl | rfl | rfl | rfl | rfl | rfl | rfl | rfl | rfl | rfl | rfl | rfl | rfl | rfl | rfl | rfl | rfl | rfl | rfl | rfl <;> omega)
          · skip
            refine zz_iinc 67 X.1 0 (v := (nI 3)) (lv' := [(1, .int (nI 3)), (0, .int (nI v))]) dJ6_numberOfTrailingZeros_0f7a4_67 rfl (nI_add _ _) (by decide) rfl ?_
            refine zz_iload_n 70 X.1 1 dJ6_numberOfTrailingZeros_0f7a4_70 rfl ?_
            refine zz_iconst 71 X.1 (v := nI 2) dJ6_numberOfTrailingZeros_0f7a4_71 rfl ?_
            refine zz_iushr 72 X.1 (v := (nI (v / 4))) dJ6_numberOfTrailingZeros_0f7a4_72 (pk_ushrN (by omega) _ 2 (by decide)) ?_
            refine zz_istore_n 73 X.1 (lv' := [(0, .int (nI (v / 4))), (1, .int (nI 3))]) dJ6_numberOfTrailingZeros_0f7a4_73 (by decide) rfl ?_
            refine zz_iload_n 74 X.1 1 dJ6_numberOfTrailingZeros_0f7a4_74 rfl ?_
            refine zz_iload_n 75 X.1 0 dJ6_numberOfTrailingZeros_0f7a4_75 rfl ?_
            refine zz_iconst 76 X.1 (v := nI 1) dJ6_numberOfTrailingZeros_0f7a4_76 rfl ?_
            refine zz_iushr 77 X.1 (v := (nI ((v / 4) / 2))) dJ6_numberOfTrailingZeros_0f7a4_77 (pk_ushrN (by omega) _ 1 (by decide)) ?_
            refine zz_iadd 78 X.1 (v := (nI (3 + ((v / 4) / 2)))) dJ6_numberOfTrailingZeros_0f7a4_78 (nI_add _ _) ?_
            rw [← hQ]
            refine zz_iret 79 X.1 hr rfl hlk () ?_ (fun _ _ _ => trivial) dJ6_numberOfTrailingZeros_0f7a4_79
            exact congrArg nI (by
              clear h1 h2
              rcases (show t = 0 ∨ t = 1 ∨ t = 2 ∨ t = 3 ∨ t = 4 ∨ t = 5 ∨ t = 6 ∨ t = 7 ∨ t = 8 ∨ t = 9 ∨ t = 10 ∨ t = 11 ∨ t = 12 ∨ t = 13 ∨ t = 14 ∨ t = 15 ∨ t = 16 ∨ t = 17 ∨ t = 18 ∨ t = 19 ∨ t = 20 ∨ t = 21 ∨ t = 22 ∨ t = 23 ∨ t = 24 ∨ t = 25 ∨ t = 26 ∨ t = 27 ∨ t = 28 ∨ t = 29 ∨ t = 30 ∨ t = 31 by omega) with rfl | rfl | rfl | rfl | rfl | rfl | rfl | rfl | rfl | rfl | rfl | rfl | rfl | rfl | rfl | rfl | rfl | rfl | rfl | rfl | rfl | rfl | rfl | rfl | rfl | rfl | rfl | rfl | rfl | rfl | rfl | rfl <;> omega)
        · skip
          refine zz_iinc 55 X.1 0 (v := (nI 5)) (lv' := [(1, .int (nI 5)), (0, .int (nI v))]) dJ6_numberOfTrailingZeros_0f7a4_55 rfl (nI_add _ _) (by decide) rfl ?_
          refine zz_iload_n 58 X.1 1 dJ6_numberOfTrailingZeros_0f7a4_58 rfl ?_
          refine zz_iconst 59 X.1 (v := nI 4) dJ6_numberOfTrailingZeros_0f7a4_59 rfl ?_
          refine zz_iushr 60 X.1 (v := (nI (v / 16))) dJ6_numberOfTrailingZeros_0f7a4_60 (pk_ushrN (by omega) _ 4 (by decide)) ?_
          refine zz_istore_n 61 X.1 (lv' := [(0, .int (nI (v / 16))), (1, .int (nI 5))]) dJ6_numberOfTrailingZeros_0f7a4_61 (by decide) rfl ?_
          refine zz_iload_n 62 X.1 0 dJ6_numberOfTrailingZeros_0f7a4_62 rfl ?_
          refine zz_iconst 63 X.1 (v := nI 4) dJ6_numberOfTrailingZeros_0f7a4_63 rfl ?_
          refine zz_icmp_le 64 74 X.1 (nI_toInt (by omega)) (nI_toInt (by omega)) dJ6_numberOfTrailingZeros_0f7a4_64 (by decide) (fun h64 => ?_) (fun h64 => ?_)
          · skip
            refine zz_iload_n 74 X.1 1 dJ6_numberOfTrailingZeros_0f7a4_74 rfl ?_
            refine zz_iload_n 75 X.1 0 dJ6_numberOfTrailingZeros_0f7a4_75 rfl ?_
            refine zz_iconst 76 X.1 (v := nI 1) dJ6_numberOfTrailingZeros_0f7a4_76 rfl ?_
            refine zz_iushr 77 X.1 (v := (nI ((v / 16) / 2))) dJ6_numberOfTrailingZeros_0f7a4_77 (pk_ushrN (by omega) _ 1 (by decide)) ?_
            refine zz_iadd 78 X.1 (v := (nI (5 + ((v / 16) / 2)))) dJ6_numberOfTrailingZeros_0f7a4_78 (nI_add _ _) ?_
            rw [← hQ]
            refine zz_iret 79 X.1 hr rfl hlk () ?_ (fun _ _ _ => trivial) dJ6_numberOfTrailingZeros_0f7a4_79
            exact congrArg nI (by
              clear h1 h2
              rcases (show t = 0 ∨ t = 1 ∨ t = 2 ∨ t = 3 ∨ t = 4 ∨ t = 5 ∨ t = 6 ∨ t = 7 ∨ t = 8 ∨ t = 9 ∨ t = 10 ∨ t = 11 ∨ t = 12 ∨ t = 13 ∨ t = 14 ∨ t = 15 ∨ t = 16 ∨ t = 17 ∨ t = 18 ∨ t = 19 ∨ t = 20 ∨ t = 21 ∨ t = 22 ∨ t = 23 ∨ t = 24 ∨ t = 25 ∨ t = 26 ∨ t = 27 ∨ t = 28 ∨ t = 29 ∨ t = 30 ∨ t = 31 by omega) with rfl | rfl | rfl | rfl | rfl | rfl | rfl | rfl | rfl | rfl | rfl | rfl | rfl | rfl | rfl | rfl | rfl | rfl | rfl | rfl | rfl | rfl | rfl | rfl | rfl | rfl | rfl | rfl | rfl | rfl | rfl | rfl <;> omega)
          · skip
            refine zz_iinc 67 X.1 1 (v := (nI 7)) (lv' := [(1, .int (nI 7)), (0, .int (nI (v / 16)))]) dJ6_numberOfTrailingZeros_0f7a4_67 rfl (nI_add _ _) (by decide) rfl ?_
            refine zz_iload_n 70 X.1 1 dJ6_numberOfTrailingZeros_0f7a4_70 rfl ?_
            refine zz_iconst 71 X.1 (v := nI 2) dJ6_numberOfTrailingZeros_0f7a4_71 rfl ?_
            refine zz_iushr 72 X.1 (v := (nI ((v / 16) / 4))) dJ6_numberOfTrailingZeros_0f7a4_72 (pk_ushrN (by omega) _ 2 (by decide)) ?_
            refine zz_istore_n 73 X.1 (lv' := [(0, .int (nI ((v / 16) / 4))), (1, .int (nI 7))]) dJ6_numberOfTrailingZeros_0f7a4_73 (by decide) rfl ?_
            refine zz_iload_n 74 X.1 1 dJ6_numberOfTrailingZeros_0f7a4_74 rfl ?_
            refine zz_iload_n 75 X.1 0 dJ6_numberOfTrailingZeros_0f7a4_75 rfl ?_
            refine zz_iconst 76 X.1 (v := nI 1) dJ6_numberOfTrailingZeros_0f7a4_76 rfl ?_
            refine zz_iushr 77 X.1 (v := (nI (((v / 16) / 4) / 2))) dJ6_numberOfTrailingZeros_0f7a4_77 (pk_ushrN (by omega) _ 1 (by decide)) ?_
            refine zz_iadd 78 X.1 (v := (nI (7 + (((v / 16) / 4) / 2)))) dJ6_numberOfTrailingZeros_0f7a4_78 (nI_add _ _) ?_
            rw [← hQ]
            refine zz_iret 79 X.1 hr rfl hlk () ?_ (fun _ _ _ => trivial) dJ6_numberOfTrailingZeros_0f7a4_79
            exact congrArg nI (by
              clear h1 h2
              rcases (show t = 0 ∨ t = 1 ∨ t = 2 ∨ t = 3 ∨ t = 4 ∨ t = 5 ∨ t = 6 ∨ t = 7 ∨ t = 8 ∨ t = 9 ∨ t = 10 ∨ t = 11 ∨ t = 12 ∨ t = 13 ∨ t = 14 ∨ t = 15 ∨ t = 16 ∨ t = 17 ∨ t = 18 ∨ t = 19 ∨ t = 20 ∨ t = 21 ∨ t = 22 ∨ t = 23 ∨ t = 24 ∨ t = 25 ∨ t = 26 ∨ t = 27 ∨ t = 28 ∨ t = 29 ∨ t = 30 ∨ t = 31 by omega) with rfl | rfl | rfl | rfl | rfl | rfl | rfl | rfl | rfl | rfl | rfl | rfl | rfl | rfl | rfl | rfl | rfl | rfl | rfl | rfl | rfl | rfl | rfl | rfl | rfl | rfl | rfl | rfl | rfl | rfl | rfl | rfl <;> omega)
      · skip
        refine zz_iinc 41 X.1 0 (v := (nI 9)) (lv' := [(1, .int (nI 9)), (0, .int (nI v))]) dJ6_numberOfTrailingZeros_0f7a4_41 rfl (nI_add _ _) (by decide) rfl ?_
        refine zz_iload_n 44 X.1 1 dJ6_numberOfTrailingZeros_0f7a4_44 rfl ?_
        refine zz_bipush 45 X.1 (v := nI 8) dJ6_numberOfTrailingZeros_0f7a4_45 rfl ?_
        refine zz_iushr 47 X.1 (v := (nI (v / 256))) dJ6_numberOfTrailingZeros_0f7a4_47 (pk_ushrN (by omega) _ 8 (by decide)) ?_
        refine zz_istore_n 48 X.1 (lv' := [(0, .int (nI (v / 256))), (1, .int (nI 9))]) dJ6_numberOfTrailingZeros_0f7a4_48 (by decide) rfl ?_
        refine zz_iload_n 49 X.1 0 dJ6_numberOfTrailingZeros_0f7a4_49 rfl ?_
        refine zz_bipush 50 X.1 (v := nI 16) dJ6_numberOfTrailingZeros_0f7a4_50 rfl ?_
        refine zz_icmp_le 52 62 X.1 (nI_toInt (by omega)) (nI_toInt (by omega)) dJ6_numberOfTrailingZeros_0f7a4_52 (by decide) (fun h52 => ?_) (fun h52 => ?_)
        · skip
          refine zz_iload_n 62 X.1 0 dJ6_numberOfTrailingZeros_0f7a4_62 rfl ?_
          refine zz_iconst 63 X.1 (v := nI 4) dJ6_numberOfTrailingZeros_0f7a4_63 rfl ?_
          refine zz_icmp_le 64 74 X.1 (nI_toInt (by omega)) (nI_toInt (by omega)) dJ6_numberOfTrailingZeros_0f7a4_64 (by decide) (fun h64 => ?_) (fun h64 => ?_)
          · skip
            refine zz_iload_n 74 X.1 1 dJ6_numberOfTrailingZeros_0f7a4_74 rfl ?_
            refine zz_iload_n 75 X.1 0 dJ6_numberOfTrailingZeros_0f7a4_75 rfl ?_
            refine zz_iconst 76 X.1 (v := nI 1) dJ6_numberOfTrailingZeros_0f7a4_76 rfl ?_
            refine zz_iushr 77 X.1 (v := (nI ((v / 256) / 2))) dJ6_numberOfTrailingZeros_0f7a4_77 (pk_ushrN (by omega) _ 1 (by decide)) ?_
            refine zz_iadd 78 X.1 (v := (nI (9 + ((v / 256) / 2)))) dJ6_numberOfTrailingZeros_0f7a4_78 (nI_add _ _) ?_
            rw [← hQ]
            refine zz_iret 79 X.1 hr rfl hlk () ?_ (fun _ _ _ => trivial) dJ6_numberOfTrailingZeros_0f7a4_79
            exact congrArg nI (by
              clear h1 h2
              rcases (show t = 0 ∨ t = 1 ∨ t = 2 ∨ t = 3 ∨ t = 4 ∨ t = 5 ∨ t = 6 ∨ t = 7 ∨ t = 8 ∨ t = 9 ∨ t = 10 ∨ t = 11 ∨ t = 12 ∨ t = 13 ∨ t = 14 ∨ t = 15 ∨ t = 16 ∨ t = 17 ∨ t = 18 ∨ t = 19 ∨ t = 20 ∨ t = 21 ∨ t = 22 ∨ t = 23 ∨ t = 24 ∨ t = 25 ∨ t = 26 ∨ t = 27 ∨ t = 28 ∨ t = 29 ∨ t = 30 ∨ t = 31 by omega) with rfl | rfl | rfl | rfl | rfl | rfl | rfl | rfl | rfl | rfl | rfl | rfl | rfl | rfl | rfl | rfl | rfl | rfl | rfl | rfl | rfl | rfl | rfl | rfl | rfl | rfl | rfl | rfl | rfl | rfl | rfl | rfl <;> omega)
          · skip
            refine zz_iinc 67 X.1 1 (v := (nI 11)) (lv' := [(1, .int (nI 11)), (0, .int (nI (v / 256)))]) dJ6_numberOfTrailingZeros_0f7a4_67 rfl (nI_add _ _) (by decide) rfl ?_
            refine zz_iload_n 70 X.1 1 dJ6_numberOfTrailingZeros_0f7a4_70 rfl ?_
            refine zz_iconst 71 X.1 (v := nI 2) dJ6_numberOfTrailingZeros_0f7a4_71 rfl ?_
            refine zz_iushr 72 X.1 (v := (nI ((v / 256) / 4))) dJ6_numberOfTrailingZeros_0f7a4_72 (pk_ushrN (by omega) _ 2 (by decide)) ?_
            refine zz_istore_n 73 X.1 (lv' := [(0, .int (nI ((v / 256) / 4))), (1, .int (nI 11))]) dJ6_numberOfTrailingZeros_0f7a4_73 (by decide) rfl ?_
            refine zz_iload_n 74 X.1 1 dJ6_numberOfTrailingZeros_0f7a4_74 rfl ?_
            refine zz_iload_n 75 X.1 0 dJ6_numberOfTrailingZeros_0f7a4_75 rfl ?_
            refine zz_iconst 76 X.1 (v := nI 1) dJ6_numberOfTrailingZeros_0f7a4_76 rfl ?_
            refine zz_iushr 77 X.1 (v := (nI (((v / 256) / 4) / 2))) dJ6_numberOfTrailingZeros_0f7a4_77 (pk_ushrN (by omega) _ 1 (by decide)) ?_
            refine zz_iadd 78 X.1 (v := (nI (11 + (((v / 256) / 4) / 2)))) dJ6_numberOfTrailingZeros_0f7a4_78 (nI_add _ _) ?_
            rw [← hQ]
            refine zz_iret 79 X.1 hr rfl hlk () ?_ (fun _ _ _ => trivial) dJ6_numberOfTrailingZeros_0f7a4_79
            exact congrArg nI (by
              clear h1 h2
              rcases (show t = 0 ∨ t = 1 ∨ t = 2 ∨ t = 3 ∨ t = 4 ∨ t = 5 ∨ t = 6 ∨ t = 7 ∨ t = 8 ∨ t = 9 ∨ t = 10 ∨ t = 11 ∨ t = 12 ∨ t = 13 ∨ t = 14 ∨ t = 15 ∨ t = 16 ∨ t = 17 ∨ t = 18 ∨ t = 19 ∨ t = 20 ∨ t = 21 ∨ t = 22 ∨ t = 23 ∨ t = 24 ∨ t = 25 ∨ t = 26 ∨ t = 27 ∨ t = 28 ∨ t = 29 ∨ t = 30 ∨ t = 31 by omega) with rfl | rfl | rfl | rfl | rfl | rfl | rfl | rfl | rfl | rfl | rfl | rfl | rfl | rfl | rfl | rfl | rfl | rfl | rfl | rfl | rfl | rfl | rfl | rfl | rfl | rfl | rfl | rfl | rfl | rfl | rfl | rfl <;> omega)
        · skip
          refine zz_iinc 55 X.1 1 (v := (nI 13)) (lv' := [(1, .int (nI 13)), (0, .int (nI (v / 256)))]) dJ6_numberOfTrailingZeros_0f7a4_55 rfl (nI_add _ _) (by decide) rfl ?_
          refine zz_iload_n 58 X.1 1 dJ6_numberOfTrailingZeros_0f7a4_58 rfl ?_
          refine zz_iconst 59 X.1 (v := nI 4) dJ6_numberOfTrailingZeros_0f7a4_59 rfl ?_
          refine zz_iushr 60 X.1 (v := (nI ((v / 256) / 16))) dJ6_numberOfTrailingZeros_0f7a4_60 (pk_ushrN (by omega) _ 4 (by decide)) ?_
          refine zz_istore_n 61 X.1 (lv' := [(0, .int (nI ((v / 256) / 16))), (1, .int (nI 13))]) dJ6_numberOfTrailingZeros_0f7a4_61 (by decide) rfl ?_
          refine zz_iload_n 62 X.1 0 dJ6_numberOfTrailingZeros_0f7a4_62 rfl ?_
          refine zz_iconst 63 X.1 (v := nI 4) dJ6_numberOfTrailingZeros_0f7a4_63 rfl ?_
          refine zz_icmp_le 64 74 X.1 (nI_toInt (by omega)) (nI_toInt (by omega)) dJ6_numberOfTrailingZeros_0f7a4_64 (by decide) (fun h64 => ?_) (fun h64 => ?_)
          · skip
            refine zz_iload_n 74 X.1 1 dJ6_numberOfTrailingZeros_0f7a4_74 rfl ?_
            refine zz_iload_n 75 X.1 0 dJ6_numberOfTrailingZeros_0f7a4_75 rfl ?_
            refine zz_iconst 76 X.1 (v := nI 1) dJ6_numberOfTrailingZeros_0f7a4_76 rfl ?_
            refine zz_iushr 77 X.1 (v := (nI (((v / 256) / 16) / 2))) dJ6_numberOfTrailingZeros_0f7a4_77 (pk_ushrN (by omega) _ 1 (by decide)) ?_
            refine zz_iadd 78 X.1 (v := (nI (13 + (((v / 256) / 16) / 2)))) dJ6_numberOfTrailingZeros_0f7a4_78 (nI_add _ _) ?_
            rw [← hQ]
            refine zz_iret 79 X.1 hr rfl hlk () ?_ (fun _ _ _ => trivial) dJ6_numberOfTrailingZeros_0f7a4_79
            exact congrArg nI (by
              clear h1 h2
              rcases (show t = 0 ∨ t = 1 ∨ t = 2 ∨ t = 3 ∨ t = 4 ∨ t = 5 ∨ t = 6 ∨ t = 7 ∨ t = 8 ∨ t = 9 ∨ t = 10 ∨ t = 11 ∨ t = 12 ∨ t = 13 ∨ t = 14 ∨ t = 15 ∨ t = 16 ∨ t = 17 ∨ t = 18 ∨ t = 19 ∨ t = 20 ∨ t = 21 ∨ t = 22 ∨ t = 23 ∨ t = 24 ∨ t = 25 ∨ t = 26 ∨ t = 27 ∨ t = 28 ∨ t = 29 ∨ t = 30 ∨ t = 31 by omega) with rfl | rfl | rfl | rfl | rfl | rfl | rfl | rfl | rfl | rfl | rfl | rfl | rfl | rfl | rfl | rfl | rfl | rfl | rfl | rfl | rfl | rfl | rfl | rfl | rfl | rfl | rfl | rfl | rfl | rfl | rfl | rfl <;> omega)
          · skip
            refine zz_iinc 67 X.1 1 (v := (nI 15)) (lv' := [(1, .int (nI 15)), (0, .int (nI ((v / 256) / 16)))]) dJ6_numberOfTrailingZeros_0f7a4_67 rfl (nI_add _ _) (by decide) rfl ?_
            refine zz_iload_n 70 X.1 1 dJ6_numberOfTrailingZeros_0f7a4_70 rfl ?_
            refine zz_iconst 71 X.1 (v := nI 2) dJ6_numberOfTrailingZeros_0f7a4_71 rfl ?_
            refine zz_iushr 72 X.1 (v := (nI (((v / 256) / 16) / 4))) dJ6_numberOfTrailingZeros_0f7a4_72 (pk_ushrN (by omega) _ 2 (by decide)) ?_
            refine zz_istore_n 73 X.1 (lv' := [(0, .int (nI (((v / 256) / 16) / 4))), (1, .int (nI 15))]) dJ6_numberOfTrailingZeros_0f7a4_73 (by decide) rfl ?_
            refine zz_iload_n 74 X.1 1 dJ6_numberOfTrailingZeros_0f7a4_74 rfl ?_
            refine zz_iload_n 75 X.1 0 dJ6_numberOfTrailingZeros_0f7a4_75 rfl ?_
            refine zz_iconst 76 X.1 (v := nI 1) dJ6_numberOfTrailingZeros_0f7a4_76 rfl ?_
            refine zz_iushr 77 X.1 (v := (nI ((((v / 256) / 16) / 4) / 2))) dJ6_numberOfTrailingZeros_0f7a4_77 (pk_ushrN (by omega) _ 1 (by decide)) ?_
            refine zz_iadd 78 X.1 (v := (nI (15 + ((((v / 256) / 16) / 4) / 2)))) dJ6_numberOfTrailingZeros_0f7a4_78 (nI_add _ _) ?_
            rw [← hQ]
            refine zz_iret 79 X.1 hr rfl hlk () ?_ (fun _ _ _ => trivial) dJ6_numberOfTrailingZeros_0f7a4_79
            exact congrArg nI (by
              clear h1 h2
              rcases (show t = 0 ∨ t = 1 ∨ t = 2 ∨ t = 3 ∨ t = 4 ∨ t = 5 ∨ t = 6 ∨ t = 7 ∨ t = 8 ∨ t = 9 ∨ t = 10 ∨ t = 11 ∨ t = 12 ∨ t = 13 ∨ t = 14 ∨ t = 15 ∨ t = 16 ∨ t = 17 ∨ t = 18 ∨ t = 19 ∨ t = 20 ∨ t = 21 ∨ t = 22 ∨ t = 23 ∨ t = 24 ∨ t = 25 ∨ t = 26 ∨ t = 27 ∨ t = 28 ∨ t = 29 ∨ t = 30 ∨ t = 31 by omega) with rfl | rfl | rfl | rfl | rfl | rfl | rfl | rfl | rfl | rfl | rfl | rfl | rfl | rfl | rfl | rfl | rfl | rfl | rfl | rfl | rfl | rfl | rfl | rfl | rfl | rfl | rfl | rfl | rfl | rfl | rfl | rfl <;> omega)
    · skip
      refine zz_iinc 26 X.1 0 (v := (nI 17)) (lv' := [(1, .int (nI 17)), (0, .int (nI v))]) dJ6_numberOfTrailingZeros_0f7a4_26 rfl (nI_add _ _) (by decide) rfl ?_
      refine zz_iload_n 29 X.1 1 dJ6_numberOfTrailingZeros_0f7a4_29 rfl ?_
      refine zz_bipush 30 X.1 (v := nI 16) dJ6_numberOfTrailingZeros_0f7a4_30 rfl ?_
      refine zz_iushr 32 X.1 (v := (nI (v / 65536))) dJ6_numberOfTrailingZeros_0f7a4_32 (pk_ushrN (by omega) _ 16 (by decide)) ?_
      refine zz_istore_n 33 X.1 (lv' := [(0, .int (nI (v / 65536))), (1, .int (nI 17))]) dJ6_numberOfTrailingZeros_0f7a4_33 (by decide) rfl ?_
      refine zz_iload_n 34 X.1 0 dJ6_numberOfTrailingZeros_0f7a4_34 rfl ?_
      refine zz_sipush 35 X.1 (v := nI 256) dJ6_numberOfTrailingZeros_0f7a4_35 rfl ?_
      refine zz_icmp_le 38 49 X.1 (nI_toInt (by omega)) (nI_toInt (by omega)) dJ6_numberOfTrailingZeros_0f7a4_38 (by decide) (fun h38 => ?_) (fun h38 => ?_)
      · skip
        refine zz_iload_n 49 X.1 0 dJ6_numberOfTrailingZeros_0f7a4_49 rfl ?_
        refine zz_bipush 50 X.1 (v := nI 16) dJ6_numberOfTrailingZeros_0f7a4_50 rfl ?_
        refine zz_icmp_le 52 62 X.1 (nI_toInt (by omega)) (nI_toInt (by omega)) dJ6_numberOfTrailingZeros_0f7a4_52 (by decide) (fun h52 => ?_) (fun h52 => ?_)
        · skip
          refine zz_iload_n 62 X.1 0 dJ6_numberOfTrailingZeros_0f7a4_62 rfl ?_
          refine zz_iconst 63 X.1 (v := nI 4) dJ6_numberOfTrailingZeros_0f7a4_63 rfl ?_
          refine zz_icmp_le 64 74 X.1 (nI_toInt (by omega)) (nI_toInt (by omega)) dJ6_numberOfTrailingZeros_0f7a4_64 (by decide) (fun h64 => ?_) (fun h64 => ?_)
          · skip
            refine zz_iload_n 74 X.1 1 dJ6_numberOfTrailingZeros_0f7a4_74 rfl ?_
            refine zz_iload_n 75 X.1 0 dJ6_numberOfTrailingZeros_0f7a4_75 rfl ?_
            refine zz_iconst 76 X.1 (v := nI 1) dJ6_numberOfTrailingZeros_0f7a4_76 rfl ?_
            refine zz_iushr 77 X.1 (v := (nI ((v / 65536) / 2))) dJ6_numberOfTrailingZeros_0f7a4_77 (pk_ushrN (by omega) _ 1 (by decide)) ?_
            refine zz_iadd 78 X.1 (v := (nI (17 + ((v / 65536) / 2)))) dJ6_numberOfTrailingZeros_0f7a4_78 (nI_add _ _) ?_
            rw [← hQ]
            refine zz_iret 79 X.1 hr rfl hlk () ?_ (fun _ _ _ => trivial) dJ6_numberOfTrailingZeros_0f7a4_79
            exact congrArg nI (by
              clear h1 h2
              rcases (show t = 0 ∨ t = 1 ∨ t = 2 ∨ t = 3 ∨ t = 4 ∨ t = 5 ∨ t = 6 ∨ t = 7 ∨ t = 8 ∨ t = 9 ∨ t = 10 ∨ t = 11 ∨ t = 12 ∨ t = 13 ∨ t = 14 ∨ t = 15 ∨ t = 16 ∨ t = 17 ∨ t = 18 ∨ t = 19 ∨ t = 20 ∨ t = 21 ∨ t = 22 ∨ t = 23 ∨ t = 24 ∨ t = 25 ∨ t = 26 ∨ t = 27 ∨ t = 28 ∨ t = 29 ∨ t = 30 ∨ t = 31 by omega) with rfl | rfl | rfl | rfl | rfl | rfl | rfl | rfl | rfl | rfl | rfl | rfl | rfl | rfl | rfl | rfl | rfl | rfl | rfl | rfl | rfl | rfl | rfl | rfl | rfl | rfl | rfl | rfl | rfl | rfl | rfl | rfl <;> omega)
          · skip
            refine zz_iinc 67 X.1 1 (v := (nI 19)) (lv' := [(1, .int (nI 19)), (0, .int (nI (v / 65536)))]) dJ6_numberOfTrailingZeros_0f7a4_67 rfl (nI_add _ _) (by decide) rfl ?_
            refine zz_iload_n 70 X.1 1 dJ6_numberOfTrailingZeros_0f7a4_70 rfl ?_
            refine zz_iconst 71 X.1 (v := nI 2) dJ6_numberOfTrailingZeros_0f7a4_71 rfl ?_
            refine zz_iushr 72 X.1 (v := (nI ((v / 65536) / 4))) dJ6_numberOfTrailingZeros_0f7a4_72 (pk_ushrN (by omega) _ 2 (by decide)) ?_
            refine zz_istore_n 73 X.1 (lv' := [(0, .int (nI ((v / 65536) / 4))), (1, .int (nI 19))]) dJ6_numberOfTrailingZeros_0f7a4_73 (by decide) rfl ?_
            refine zz_iload_n 74 X.1 1 dJ6_numberOfTrailingZeros_0f7a4_74 rfl ?_
            refine zz_iload_n 75 X.1 0 dJ6_numberOfTrailingZeros_0f7a4_75 rfl ?_
            refine zz_iconst 76 X.1 (v := nI 1) dJ6_numberOfTrailingZeros_0f7a4_76 rfl ?_
            refine zz_iushr 77 X.1 (v := (nI (((v / 65536) / 4) / 2))) dJ6_numberOfTrailingZeros_0f7a4_77 (pk_ushrN (by omega) _ 1 (by decide)) ?_
            refine zz_iadd 78 X.1 (v := (nI (19 + (((v / 65536) / 4) / 2)))) dJ6_numberOfTrailingZeros_0f7a4_78 (nI_add _ _) ?_
            rw [← hQ]
            refine zz_iret 79 X.1 hr rfl hlk () ?_ (fun _ _ _ => trivial) dJ6_numberOfTrailingZeros_0f7a4_79
            exact congrArg nI (by
              clear h1 h2
              rcases (show t = 0 ∨ t = 1 ∨ t = 2 ∨ t = 3 ∨ t = 4 ∨ t = 5 ∨ t = 6 ∨ t = 7 ∨ t = 8 ∨ t = 9 ∨ t = 10 ∨ t = 11 ∨ t = 12 ∨ t = 13 ∨ t = 14 ∨ t = 15 ∨ t = 16 ∨ t = 17 ∨ t = 18 ∨ t = 19 ∨ t = 20 ∨ t = 21 ∨ t = 22 ∨ t = 23 ∨ t = 24 ∨ t = 25 ∨ t = 26 ∨ t = 27 ∨ t = 28 ∨ t = 29 ∨ t = 30 ∨ t = 31 by omega) with rfl | rfl | rfl | rfl | rfl | rfl | rfl | rfl | rfl | rfl | rfl | rfl | rfl | rfl | rfl | rfl | rfl | rfl | rfl | rfl | rfl | rfl | rfl | rfl | rfl | rfl | rfl | rfl | rfl | rfl | rfl | rfl <;> omega)
        · skip
          refine zz_iinc 55 X.1 1 (v := (nI 21)) (lv' := [(1, .int (nI 21)), (0, .int (nI (v / 65536)))]) dJ6_numberOfTrailingZeros_0f7a4_55 rfl (nI_add _ _) (by decide) rfl ?_
          refine zz_iload_n 58 X.1 1 dJ6_numberOfTrailingZeros_0f7a4_58 rfl ?_
          refine zz_iconst 59 X.1 (v := nI 4) dJ6_numberOfTrailingZeros_0f7a4_59 rfl ?_
          refine zz_iushr 60 X.1 (v := (nI ((v / 65536) / 16))) dJ6_numberOfTrailingZeros_0f7a4_60 (pk_ushrN (by omega) _ 4 (by decide)) ?_
          refine zz_istore_n 61 X.1 (lv' := [(0, .int (nI ((v / 65536) / 16))), (1, .int (nI 21))]) dJ6_numberOfTrailingZeros_0f7a4_61 (by decide) rfl ?_
          refine zz_iload_n 62 X.1 0 dJ6_numberOfTrailingZeros_0f7a4_62 rfl ?_
          refine zz_iconst 63 X.1 (v := nI 4) dJ6_numberOfTrailingZeros_0f7a4_63 rfl ?_
          refine zz_icmp_le 64 74 X.1 (nI_toInt (by omega)) (nI_toInt (by omega)) dJ6_numberOfTrailingZeros_0f7a4_64 (by decide) (fun h64 => ?_) (fun h64 => ?_)
          · skip
            refine zz_iload_n 74 X.1 1 dJ6_numberOfTrailingZeros_0f7a4_74 rfl ?_
            refine zz_iload_n 75 X.1 0 dJ6_numberOfTrailingZeros_0f7a4_75 rfl ?_
            refine zz_iconst 76 X.1 (v := nI 1) dJ6_numberOfTrailingZeros_0f7a4_76 rfl ?_
            refine zz_iushr 77 X.1 (v := (nI (((v / 65536) / 16) / 2))) dJ6_numberOfTrailingZeros_0f7a4_77 (pk_ushrN (by omega) _ 1 (by decide)) ?_
            refine zz_iadd 78 X.1 (v := (nI (21 + (((v / 65536) / 16) / 2)))) dJ6_numberOfTrailingZeros_0f7a4_78 (nI_add _ _) ?_
            rw [← hQ]
            refine zz_iret 79 X.1 hr rfl hlk () ?_ (fun _ _ _ => trivial) dJ6_numberOfTrailingZeros_0f7a4_79
            exact congrArg nI (by
              clear h1 h2
              rcases (show t = 0 ∨ t = 1 ∨ t = 2 ∨ t = 3 ∨ t = 4 ∨ t = 5 ∨ t = 6 ∨ t = 7 ∨ t = 8 ∨ t = 9 ∨ t = 10 ∨ t = 11 ∨ t = 12 ∨ t = 13 ∨ t = 14 ∨ t = 15 ∨ t = 16 ∨ t = 17 ∨ t = 18 ∨ t = 19 ∨ t = 20 ∨ t = 21 ∨ t = 22 ∨ t = 23 ∨ t = 24 ∨ t = 25 ∨ t = 26 ∨ t = 27 ∨ t = 28 ∨ t = 29 ∨ t = 30 ∨ t = 31 by omega) with rfl | rfl | rfl | rfl | rfl | rfl | rfl | rfl | rfl | rfl | rfl | rfl | rfl | rfl | rfl | rfl | rfl | rfl | rfl | rfl | rfl | rfl | rfl | rfl | rfl | rfl | rfl | rfl | rfl | rfl | rfl | rfl <;> omega)
          · skip
            refine zz_iinc 67 X.1 1 (v := (nI 23)) (lv' := [(1, .int (nI 23)), (0, .int (nI ((v / 65536) / 16)))]) dJ6_numberOfTrailingZeros_0f7a4_67 rfl (nI_add _ _) (by decide) rfl ?_
            refine zz_iload_n 70 X.1 1 dJ6_numberOfTrailingZeros_0f7a4_70 rfl ?_
            refine zz_iconst 71 X.1 (v := nI 2) dJ6_numberOfTrailingZeros_0f7a4_71 rfl ?_
            refine zz_iushr 72 X.1 (v := (nI (((v / 65536) / 16) / 4))) dJ6_numberOfTrailingZeros_0f7a4_72 (pk_ushrN (by omega) _ 2 (by decide)) ?_
            refine zz_istore_n 73 X.1 (lv' := [(0, .int (nI (((v / 65536) / 16) / 4))), (1, .int (nI 23))]) dJ6_numberOfTrailingZeros_0f7a4_73 (by decide) rfl ?_
            refine zz_iload_n 74 X.1 1 dJ6_numberOfTrailingZeros_0f7a4_74 rfl ?_
            refine zz_iload_n 75 X.1 0 dJ6_numberOfTrailingZeros_0f7a4_75 rfl ?_
            refine zz_iconst 76 X.1 (v := nI 1) dJ6_numberOfTrailingZeros_0f7a4_76 rfl ?_
            refine zz_iushr 77 X.1 (v := (nI ((((v / 65536) / 16) / 4) / 2))) dJ6_numberOfTrailingZeros_0f7a4_77 (pk_ushrN (by omega) _ 1 (by decide)) ?_
            refine zz_iadd 78 X.1 (v := (nI (23 + ((((v / 65536) / 16) / 4) / 2)))) dJ6_numberOfTrailingZeros_0f7a4_78 (nI_add _ _) ?_
            rw [← hQ]
            refine zz_iret 79 X.1 hr rfl hlk () ?_ (fun _ _ _ => trivial) dJ6_numberOfTrailingZeros_0f7a4_79
            exact congrArg nI (by
              clear h1 h2
              rcases (show t = 0 ∨ t = 1 ∨ t = 2 ∨ t = 3 ∨ t = 4 ∨ t = 5 ∨ t = 6 ∨ t = 7 ∨ t = 8 ∨ t = 9 ∨ t = 10 ∨ t = 11 ∨ t = 12 ∨ t = 13 ∨ t = 14 ∨ t = 15 ∨ t = 16 ∨ t = 17 ∨ t = 18 ∨ t = 19 ∨ t = 20 ∨ t = 21 ∨ t = 22 ∨ t = 23 ∨ t = 24 ∨ t = 25 ∨ t = 26 ∨ t = 27 ∨ t = 28 ∨ t = 29 ∨ t = 30 ∨ t = 31 by omega) with rfl | rfl | rfl | rfl | rfl | rfl | rfl | rfl | rfl | rfl | rfl | rfl | rfl | rfl | rfl | rfl | rfl | rfl | rfl | rfl | rfl | rfl | rfl | rfl | rfl | rfl | rfl | rfl | rfl | rfl | rfl | rfl <;> omega)
      · skip
        refine zz_iinc 41 X.1 1 (v := (nI 25)) (lv' := [(1, .int (nI 25)), (0, .int (nI (v / 65536)))]) dJ6_numberOfTrailingZeros_0f7a4_41 rfl (nI_add _ _) (by decide) rfl ?_
        refine zz_iload_n 44 X.1 1 dJ6_numberOfTrailingZeros_0f7a4_44 rfl ?_
        refine zz_bipush 45 X.1 (v := nI 8) dJ6_numberOfTrailingZeros_0f7a4_45 rfl ?_
        refine zz_iushr 47 X.1 (v := (nI ((v / 65536) / 256))) dJ6_numberOfTrailingZeros_0f7a4_47 (pk_ushrN (by omega) _ 8 (by decide)) ?_
        refine zz_istore_n 48 X.1 (lv' := [(0, .int (nI ((v / 65536) / 256))), (1, .int (nI 25))]) dJ6_numberOfTrailingZeros_0f7a4_48 (by decide) rfl ?_
        refine zz_iload_n 49 X.1 0 dJ6_numberOfTrailingZeros_0f7a4_49 rfl ?_
        refine zz_bipush 50 X.1 (v := nI 16) dJ6_numberOfTrailingZeros_0f7a4_50 rfl ?_
        refine zz_icmp_le 52 62 X.1 (nI_toInt (by omega)) (nI_toInt (by omega)) dJ6_numberOfTrailingZeros_0f7a4_52 (by decide) (fun h52 => ?_) (fun h52 => ?_)
        · skip
          refine zz_iload_n 62 X.1 0 dJ6_numberOfTrailingZeros_0f7a4_62 rfl ?_
          refine zz_iconst 63 X.1 (v := nI 4) dJ6_numberOfTrailingZeros_0f7a4_63 rfl ?_
          refine zz_icmp_le 64 74 X.1 (nI_toInt (by omega)) (nI_toInt (by omega)) dJ6_numberOfTrailingZeros_0f7a4_64 (by decide) (fun h64 => ?_) (fun h64 => ?_)
          · skip
            refine zz_iload_n 74 X.1 1 dJ6_numberOfTrailingZeros_0f7a4_74 rfl ?_
            refine zz_iload_n 75 X.1 0 dJ6_numberOfTrailingZeros_0f7a4_75 rfl ?_
            refine zz_iconst 76 X.1 (v := nI 1) dJ6_numberOfTrailingZeros_0f7a4_76 rfl ?_
            refine zz_iushr 77 X.1 (v := (nI (((v / 65536) / 256) / 2))) dJ6_numberOfTrailingZeros_0f7a4_77 (pk_ushrN (by omega) _ 1 (by decide)) ?_
            refine zz_iadd 78 X.1 (v := (nI (25 + (((v / 65536) / 256) / 2)))) dJ6_numberOfTrailingZeros_0f7a4_78 (nI_add _ _) ?_
            rw [← hQ]
            refine zz_iret 79 X.1 hr rfl hlk () ?_ (fun _ _ _ => trivial) dJ6_numberOfTrailingZeros_0f7a4_79
            exact congrArg nI (by
              clear h1 h2
              rcases (show t = 0 ∨ t = 1 ∨ t = 2 ∨ t = 3 ∨ t = 4 ∨ t = 5 ∨ t = 6 ∨ t = 7 ∨ t = 8 ∨ t = 9 ∨ t = 10 ∨ t = 11 ∨ t = 12 ∨ t = 13 ∨ t = 14 ∨ t = 15 ∨ t = 16 ∨ t = 17 ∨ t = 18 ∨ t = 19 ∨ t = 20 ∨ t = 21 ∨ t = 22 ∨ t = 23 ∨ t = 24 ∨ t = 25 ∨ t = 26 ∨ t = 27 ∨ t = 28 ∨ t = 29 ∨ t = 30 ∨ t = 31 by omega) with rfl | rfl | rfl | rfl | rfl | rfl | rfl | rfl | rfl | rfl | rfl | rfl | rfl | rfl | rfl | rfl | rfl | rfl | rfl | rfl | rfl | rfl | rfl | rfl | rfl | rfl | rfl | rfl | rfl | rfl | rfl | rfl <;> omega)
          · skip
            refine zz_iinc 67 X.1 1 (v := (nI 27)) (lv' := [(1, .int (nI 27)), (0, .int (nI ((v / 65536) / 256)))]) dJ6_numberOfTrailingZeros_0f7a4_67 rfl (nI_add _ _) (by decide) rfl ?_
            refine zz_iload_n 70 X.1 1 dJ6_numberOfTrailingZeros_0f7a4_70 rfl ?_
            refine zz_iconst 71 X.1 (v := nI 2) dJ6_numberOfTrailingZeros_0f7a4_71 rfl ?_
            refine zz_iushr 72 X.1 (v := (nI (((v / 65536) / 256) / 4))) dJ6_numberOfTrailingZeros_0f7a4_72 (pk_ushrN (by omega) _ 2 (by decide)) ?_
            refine zz_istore_n 73 X.1 (lv' := [(0, .int (nI (((v / 65536) / 256) / 4))), (1, .int (nI 27))]) dJ6_numberOfTrailingZeros_0f7a4_73 (by decide) rfl ?_
            refine zz_iload_n 74 X.1 1 dJ6_numberOfTrailingZeros_0f7a4_74 rfl ?_
            refine zz_iload_n 75 X.1 0 dJ6_numberOfTrailingZeros_0f7a4_75 rfl ?_
            refine zz_iconst 76 X.1 (v := nI 1) dJ6_numberOfTrailingZeros_0f7a4_76 rfl ?_
            refine zz_iushr 77 X.1 (v := (nI ((((v / 65536) / 256) / 4) / 2))) dJ6_numberOfTrailingZeros_0f7a4_77 (pk_ushrN (by omega) _ 1 (by decide)) ?_
            refine zz_iadd 78 X.1 (v := (nI (27 + ((((v / 65536) / 256) / 4) / 2)))) dJ6_numberOfTrailingZeros_0f7a4_78 (nI_add _ _) ?_
            rw [← hQ]
            refine zz_iret 79 X.1 hr rfl hlk () ?_ (fun _ _ _ => trivial) dJ6_numberOfTrailingZeros_0f7a4_79
            exact congrArg nI (by
              clear h1 h2
              rcases (show t = 0 ∨ t = 1 ∨ t = 2 ∨ t = 3 ∨ t = 4 ∨ t = 5 ∨ t = 6 ∨ t = 7 ∨ t = 8 ∨ t = 9 ∨ t = 10 ∨ t = 11 ∨ t = 12 ∨ t = 13 ∨ t = 14 ∨ t = 15 ∨ t = 16 ∨ t = 17 ∨ t = 18 ∨ t = 19 ∨ t = 20 ∨ t = 21 ∨ t = 22 ∨ t = 23 ∨ t = 24 ∨ t = 25 ∨ t = 26 ∨ t = 27 ∨ t = 28 ∨ t = 29 ∨ t = 30 ∨ t = 31 by omega) with rfl | rfl | rfl | rfl | rfl | rfl | rfl | rfl | rfl | rfl | rfl | rfl | rfl | rfl | rfl | rfl | rfl | rfl | rfl | rfl | rfl | rfl | rfl | rfl | rfl | rfl | rfl | rfl | rfl | rfl | rfl | rfl <;> omega)
        · skip
          refine zz_iinc 55 X.1 1 (v := (nI 29)) (lv' := [(1, .int (nI 29)), (0, .int (nI ((v / 65536) / 256)))]) dJ6_numberOfTrailingZeros_0f7a4_55 rfl (nI_add _ _) (by decide) rfl ?_
          refine zz_iload_n 58 X.1 1 dJ6_numberOfTrailingZeros_0f7a4_58 rfl ?_
          refine zz_iconst 59 X.1 (v := nI 4) dJ6_numberOfTrailingZeros_0f7a4_59 rfl ?_
          refine zz_iushr 60 X.1 (v := (nI (((v / 65536) / 256) / 16))) dJ6_numberOfTrailingZeros_0f7a4_60 (pk_ushrN (by omega) _ 4 (by decide)) ?_
          refine zz_istore_n 61 X.1 (lv' := [(0, .int (nI (((v / 65536) / 256) / 16))), (1, .int (nI 29))]) dJ6_numberOfTrailingZeros_0f7a4_61 (by decide) rfl ?_
          refine zz_iload_n 62 X.1 0 dJ6_numberOfTrailingZeros_0f7a4_62 rfl ?_
          refine zz_iconst 63 X.1 (v := nI 4) dJ6_numberOfTrailingZeros_0f7a4_63 rfl ?_
          refine zz_icmp_le 64 74 X.1 (nI_toInt (by omega)) (nI_toInt (by omega)) dJ6_numberOfTrailingZeros_0f7a4_64 (by decide) (fun h64 => ?_) (fun h64 => ?_)
          · skip
            refine zz_iload_n 74 X.1 1 dJ6_numberOfTrailingZeros_0f7a4_74 rfl ?_
            refine zz_iload_n 75 X.1 0 dJ6_numberOfTrailingZeros_0f7a4_75 rfl ?_
            refine zz_iconst 76 X.1 (v := nI 1) dJ6_numberOfTrailingZeros_0f7a4_76 rfl ?_
            refine zz_iushr 77 X.1 (v := (nI ((((v / 65536) / 256) / 16) / 2))) dJ6_numberOfTrailingZeros_0f7a4_77 (pk_ushrN (by omega) _ 1 (by decide)) ?_
            refine zz_iadd 78 X.1 (v := (nI (29 + ((((v / 65536) / 256) / 16) / 2)))) dJ6_numberOfTrailingZeros_0f7a4_78 (nI_add _ _) ?_
            rw [← hQ]
            refine zz_iret 79 X.1 hr rfl hlk () ?_ (fun _ _ _ => trivial) dJ6_numberOfTrailingZeros_0f7a4_79
            exact congrArg nI (by
              clear h1 h2
              rcases (show t = 0 ∨ t = 1 ∨ t = 2 ∨ t = 3 ∨ t = 4 ∨ t = 5 ∨ t = 6 ∨ t = 7 ∨ t = 8 ∨ t = 9 ∨ t = 10 ∨ t = 11 ∨ t = 12 ∨ t = 13 ∨ t = 14 ∨ t = 15 ∨ t = 16 ∨ t = 17 ∨ t = 18 ∨ t = 19 ∨ t = 20 ∨ t = 21 ∨ t = 22 ∨ t = 23 ∨ t = 24 ∨ t = 25 ∨ t = 26 ∨ t = 27 ∨ t = 28 ∨ t = 29 ∨ t = 30 ∨ t = 31 by omega) with rfl | rfl | rfl | rfl | rfl | rfl | rfl | rfl | rfl | rfl | rfl | rfl | rfl | rfl | rfl | rfl | rfl | rfl | rfl | rfl | rfl | rfl | rfl | rfl | rfl | rfl | rfl | rfl | rfl | rfl | rfl | rfl <;> omega)
          · skip
            refine zz_iinc 67 X.1 1 (v := (nI 31)) (lv' := [(1, .int (nI 31)), (0, .int (nI (((v / 65536) / 256) / 16)))]) dJ6_numberOfTrailingZeros_0f7a4_67 rfl (nI_add _ _) (by decide) rfl ?_
            refine zz_iload_n 70 X.1 1 dJ6_numberOfTrailingZeros_0f7a4_70 rfl ?_
            refine zz_iconst 71 X.1 (v := nI 2) dJ6_numberOfTrailingZeros_0f7a4_71 rfl ?_
            refine zz_iushr 72 X.1 (v := (nI ((((v / 65536) / 256) / 16) / 4))) dJ6_numberOfTrailingZeros_0f7a4_72 (pk_ushrN (by omega) _ 2 (by decide)) ?_
            refine zz_istore_n 73 X.1 (lv' := [(0, .int (nI ((((v / 65536) / 256) / 16) / 4))), (1, .int (nI 31))]) dJ6_numberOfTrailingZeros_0f7a4_73 (by decide) rfl ?_
            refine zz_iload_n 74 X.1 1 dJ6_numberOfTrailingZeros_0f7a4_74 rfl ?_
            refine zz_iload_n 75 X.1 0 dJ6_numberOfTrailingZeros_0f7a4_75 rfl ?_
            refine zz_iconst 76 X.1 (v := nI 1) dJ6_numberOfTrailingZeros_0f7a4_76 rfl ?_
            refine zz_iushr 77 X.1 (v := (nI (((((v / 65536) / 256) / 16) / 4) / 2))) dJ6_numberOfTrailingZeros_0f7a4_77 (pk_ushrN (by omega) _ 1 (by decide)) ?_
            refine zz_iadd 78 X.1 (v := (nI (31 + (((((v / 65536) / 256) / 16) / 4) / 2)))) dJ6_numberOfTrailingZeros_0f7a4_78 (nI_add _ _) ?_
            rw [← hQ]
            refine zz_iret 79 X.1 hr rfl hlk () ?_ (fun _ _ _ => trivial) dJ6_numberOfTrailingZeros_0f7a4_79
            exact congrArg nI (by
              clear h1 h2
              rcases (show t = 0 ∨ t = 1 ∨ t = 2 ∨ t = 3 ∨ t = 4 ∨ t = 5 ∨ t = 6 ∨ t = 7 ∨ t = 8 ∨ t = 9 ∨ t = 10 ∨ t = 11 ∨ t = 12 ∨ t = 13 ∨ t = 14 ∨ t = 15 ∨ t = 16 ∨ t = 17 ∨ t = 18 ∨ t = 19 ∨ t = 20 ∨ t = 21 ∨ t = 22 ∨ t = 23 ∨ t = 24 ∨ t = 25 ∨ t = 26 ∨ t = 27 ∨ t = 28 ∨ t = 29 ∨ t = 30 ∨ t = 31 by omega) with rfl | rfl | rfl | rfl | rfl | rfl | rfl | rfl | rfl | rfl | rfl | rfl | rfl | rfl | rfl | rfl | rfl | rfl | rfl | rfl | rfl | rfl | rfl | rfl | rfl | rfl | rfl | rfl | rfl | rfl | rfl | rfl <;> omega)
  · skip
    refine zz_iload_n 12 X.1 0 dJ6_numberOfTrailingZeros_0f7a4_12 rfl ?_
    refine zz_bipush 13 X.1 (v := nI 32) dJ6_numberOfTrailingZeros_0f7a4_13 rfl ?_
    refine zz_iand 15 X.1 (v := (nI 0)) dJ6_numberOfTrailingZeros_0f7a4_15 (by rw [show v = 0 by omega]; rfl) ?_
    rw [← hQ]
    refine zz_iret 16 X.1 hr rfl hlk () ?_ (fun _ _ _ => trivial) dJ6_numberOfTrailingZeros_0f7a4_16
    rw [show t = 0 by
      rcases (show t = 0 ∨ t = 1 ∨ t = 2 ∨ t = 3 ∨ t = 4 ∨ t = 5 ∨ t = 6 ∨ t = 7 ∨ t = 8 ∨ t = 9 ∨ t = 10 ∨ t = 11 ∨ t = 12 ∨ t = 13 ∨ t = 14 ∨ t = 15 ∨ t = 16 ∨ t = 17 ∨ t = 18 ∨ t = 19 ∨ t = 20 ∨ t = 21 ∨ t = 22 ∨ t = 23 ∨ t = 24 ∨ t = 25 ∨ t = 26 ∨ t = 27 ∨ t = 28 ∨ t = 29 ∨ t = 30 ∨ t = 31 by omega) with rfl | rfl | rfl | rfl | rfl | rfl | rfl | rfl | rfl | rfl | rfl | rfl | rfl | rfl | rfl | rfl | rfl | rfl | rfl | rfl | rfl | rfl | rfl | rfl | rfl | rfl | rfl | rfl | rfl | rfl | rfl | rfl <;> omega]
abbrev rm_J6_numberOfLeadingZeros_0f7a4 : Room := { frames := 0, cells := 0, slots := 0, locals := 0 }
theorem yd_J6_numberOfLeadingZeros_0f7a4 : yJ6_numberOfLeadingZeros_0f7a4.cls = RJ6 ∧ yJ6_numberOfLeadingZeros_0f7a4.cls ≠ "java/lang/invoke/MethodHandle" ∧ yJ6_numberOfLeadingZeros_0f7a4.cls ≠ "java/lang/invoke/VarHandle" ∧ (parseMethodDescriptor yJ6_numberOfLeadingZeros_0f7a4.desc).map (fun d => d.parameters.length) = some 1 := by decide +kernel
set_option maxHeartbeats 4000000 in
set_option maxRecDepth 100000 in
theorem kt_J6_nLZ_v (l : Launch) (v : Nat) (t : Nat) (ht : t < 31) (h1 : 2 ^ t ≤ v) (h2 : v < 2 ^ (t + 1)) : SMi l yJ6_numberOfLeadingZeros_0f7a4 wsJ6_numberOfLeadingZeros_0f7a4 rm_J6_numberOfLeadingZeros_0f7a4 [.int (nI v)] (fun (r : Int32) => r = (nI (31 - t))) := by
  refine SMi_of (lv := [(0, .int (nI v))]) (cc := cJ6_numberOfLeadingZeros_0f7a4) (maxL := 2) (ret := (some .int)) rfl (by decide +kernel) (Nat.le_of_ble_eq_true rfl) rfl ?_
  intro p e s m args below meth c hc hts hown hml hr hlk
  have X : (p.tables.exec = Jvm.exec ∧ c.code = cJ6_numberOfLeadingZeros_0f7a4) ∧ True := ⟨hc, trivial⟩
  generalize hQ : MQ below _ args s 0 0 _ = Q
  have hv2 : 0 < v ∧ v < 2 ^ 31 := by
    rcases (show t = 0 ∨ t = 1 ∨ t = 2 ∨ t = 3 ∨ t = 4 ∨ t = 5 ∨ t = 6 ∨ t = 7 ∨ t = 8 ∨ t = 9 ∨ t = 10 ∨ t = 11 ∨ t = 12 ∨ t = 13 ∨ t = 14 ∨ t = 15 ∨ t = 16 ∨ t = 17 ∨ t = 18 ∨ t = 19 ∨ t = 20 ∨ t = 21 ∨ t = 22 ∨ t = 23 ∨ t = 24 ∨ t = 25 ∨ t = 26 ∨ t = 27 ∨ t = 28 ∨ t = 29 ∨ t = 30 by omega) with rfl | rfl | rfl | rfl | rfl | rfl | rfl | rfl | rfl | rfl | rfl | rfl | rfl | rfl | rfl | rfl | rfl | rfl | rfl | rfl | rfl | rfl | rfl | rfl | rfl | rfl | rfl | rfl | rfl | rfl | rfl <;> omega
  refine zz_iload_n 0 X.1 0 dJ6_numberOfLeadingZeros_0f7a4_0 rfl ?_
  refine zz_if_gt 1 15 X.1 (nI_toInt (by omega)) dJ6_numberOfLeadingZeros_0f7a4_1 (by decide) (fun h1 => ?_) (fun h1 => ?_)
  · skip
    refine zz_bipush 15 X.1 (v := nI 31) dJ6_numberOfLeadingZeros_0f7a4_15 rfl ?_
    refine zz_istore_n 17 X.1 (lv' := [(1, .int (nI 31)), (0, .int (nI v))]) dJ6_numberOfLeadingZeros_0f7a4_17 (by decide) rfl ?_
    refine zz_iload_n 18 X.1 1 dJ6_numberOfLeadingZeros_0f7a4_18 rfl ?_
    refine zz_ldcw 19 X.1 (v := 65536) dJ6_numberOfLeadingZeros_0f7a4_19 hown (by exact hts _ (by decide +kernel)) ?_
    refine zz_topi (nI 65536) (by decide) ?_
    refine zz_icmp_lt 22 33 X.1 (nI_toInt (by omega)) (nI_toInt (by omega)) dJ6_numberOfLeadingZeros_0f7a4_22 (by decide) (fun h22 => ?_) (fun h22 => ?_)
    · skip
      refine zz_iload_n 33 X.1 1 dJ6_numberOfLeadingZeros_0f7a4_33 rfl ?_
      refine zz_sipush 34 X.1 (v := nI 256) dJ6_numberOfLeadingZeros_0f7a4_34 rfl ?_
      refine zz_icmp_lt 37 48 X.1 (nI_toInt (by omega)) (nI_toInt (by omega)) dJ6_numberOfLeadingZeros_0f7a4_37 (by decide) (fun h37 => ?_) (fun h37 => ?_)
      · skip
        refine zz_iload_n 48 X.1 1 dJ6_numberOfLeadingZeros_0f7a4_48 rfl ?_
        refine zz_bipush 49 X.1 (v := nI 16) dJ6_numberOfLeadingZeros_0f7a4_49 rfl ?_
        refine zz_icmp_lt 51 61 X.1 (nI_toInt (by omega)) (nI_toInt (by omega)) dJ6_numberOfLeadingZeros_0f7a4_51 (by decide) (fun h51 => ?_) (fun h51 => ?_)
        · skip
          refine zz_iload_n 61 X.1 1 dJ6_numberOfLeadingZeros_0f7a4_61 rfl ?_
          refine zz_iconst 62 X.1 (v := nI 4) dJ6_numberOfLeadingZeros_0f7a4_62 rfl ?_
          refine zz_icmp_lt 63 73 X.1 (nI_toInt (by omega)) (nI_toInt (by omega)) dJ6_numberOfLeadingZeros_0f7a4_63 (by decide) (fun h63 => ?_) (fun h63 => ?_)
          · skip
            refine zz_iload_n 73 X.1 0 dJ6_numberOfLeadingZeros_0f7a4_73 rfl ?_
            refine zz_iload_n 74 X.1 1 dJ6_numberOfLeadingZeros_0f7a4_74 rfl ?_
            refine zz_iconst 75 X.1 (v := nI 1) dJ6_numberOfLeadingZeros_0f7a4_75 rfl ?_
            refine zz_iushr 76 X.1 (v := (nI (v / 2))) dJ6_numberOfLeadingZeros_0f7a4_76 (pk_ushrN (by omega) _ 1 (by decide)) ?_
            refine zz_isub 77 X.1 (v := (nI (31 - (v / 2)))) dJ6_numberOfLeadingZeros_0f7a4_77 (pk_sub (by omega)) ?_
            rw [← hQ]
            refine zz_iret 78 X.1 hr rfl hlk () ?_ (fun _ _ _ => trivial) dJ6_numberOfLeadingZeros_0f7a4_78
            exact congrArg nI (by
              rcases (show t = 0 ∨ t = 1 ∨ t = 2 ∨ t = 3 ∨ t = 4 ∨ t = 5 ∨ t = 6 ∨ t = 7 ∨ t = 8 ∨ t = 9 ∨ t = 10 ∨ t = 11 ∨ t = 12 ∨ t = 13 ∨ t = 14 ∨ t = 15 ∨ t = 16 ∨ t = 17 ∨ t = 18 ∨ t = 19 ∨ t = 20 ∨ t = 21 ∨ t = 22 ∨ t = 23 ∨ t = 24 ∨ t = 25 ∨ t = 26 ∨ t = 27 ∨ t = 28 ∨ t = 29 ∨ t = 30 by omega) with rfl | rfl | rfl | rfl | rfl | rfl | rfl | rfl | rfl | rfl | rfl | rfl | rfl | rfl | rfl | rfl | rfl | rfl | rfl | rfl | rfl | rfl | rfl | rfl | rfl | rfl | rfl | rfl | rfl | rfl | rfl <;> omega)
          · skip
            refine zz_iinc 66 X.1 0 (v := (nI 29)) (lv' := [(1, .int (nI 29)), (0, .int (nI v))]) dJ6_numberOfLeadingZeros_0f7a4_66 rfl (zn_dec 2 (by omega)) (by decide) rfl ?_
            refine zz_iload_n 69 X.1 1 dJ6_numberOfLeadingZeros_0f7a4_69 rfl ?_
            refine zz_iconst 70 X.1 (v := nI 2) dJ6_numberOfLeadingZeros_0f7a4_70 rfl ?_
            refine zz_iushr 71 X.1 (v := (nI (v / 4))) dJ6_numberOfLeadingZeros_0f7a4_71 (pk_ushrN (by omega) _ 2 (by decide)) ?_
            refine zz_istore_n 72 X.1 (lv' := [(0, .int (nI (v / 4))), (1, .int (nI 29))]) dJ6_numberOfLeadingZeros_0f7a4_72 (by decide) rfl ?_
            refine zz_iload_n 73 X.1 1 dJ6_numberOfLeadingZeros_0f7a4_73 rfl ?_
            refine zz_iload_n 74 X.1 0 dJ6_numberOfLeadingZeros_0f7a4_74 rfl ?_
            refine zz_iconst 75 X.1 (v := nI 1) dJ6_numberOfLeadingZeros_0f7a4_75 rfl ?_
            refine zz_iushr 76 X.1 (v := (nI ((v / 4) / 2))) dJ6_numberOfLeadingZeros_0f7a4_76 (pk_ushrN (by omega) _ 1 (by decide)) ?_
            refine zz_isub 77 X.1 (v := (nI (29 - ((v / 4) / 2)))) dJ6_numberOfLeadingZeros_0f7a4_77 (pk_sub (by omega)) ?_
            rw [← hQ]
            refine zz_iret 78 X.1 hr rfl hlk () ?_ (fun _ _ _ => trivial) dJ6_numberOfLeadingZeros_0f7a4_78
            exact congrArg nI (by
              rcases (show t = 0 ∨ t = 1 ∨ t = 2 ∨ t = 3 ∨ t = 4 ∨ t = 5 ∨ t = 6 ∨ t = 7 ∨ t = 8 ∨ t = 9 ∨ t = 10 ∨ t = 11 ∨ t = 12 ∨ t = 13 ∨ t = 14 ∨ t = 15 ∨ t = 16 ∨ t = 17 ∨ t = 18 ∨ t = 19 ∨ t = 20 ∨ t = 21 ∨ t = 22 ∨ t = 23 ∨ t = 24 ∨ t = 25 ∨ t = 26 ∨ t = 27 ∨ t = 28 ∨ t = 29 ∨ t = 30 by omega) with rfl | rfl | rfl | rfl | rfl | rfl | rfl | rfl | rfl | rfl | rfl | rfl | rfl | rfl | rfl | rfl | rfl | rfl | rfl | rfl | rfl | rfl | rfl | rfl | rfl | rfl | rfl | rfl | rfl | rfl | rfl <;> omega)
        · skip
          refine zz_iinc 54 X.1 0 (v := (nI 27)) (lv' := [(1, .int (nI 27)), (0, .int (nI v))]) dJ6_numberOfLeadingZeros_0f7a4_54 rfl (zn_dec 4 (by omega)) (by decide) rfl ?_
          refine zz_iload_n 57 X.1 1 dJ6_numberOfLeadingZeros_0f7a4_57 rfl ?_
          refine zz_iconst 58 X.1 (v := nI 4) dJ6_numberOfLeadingZeros_0f7a4_58 rfl ?_
          refine zz_iushr 59 X.1 (v := (nI (v / 16))) dJ6_numberOfLeadingZeros_0f7a4_59 (pk_ushrN (by omega) _ 4 (by decide)) ?_
          refine zz_istore_n 60 X.1 (lv' := [(0, .int (nI (v / 16))), (1, .int (nI 27))]) dJ6_numberOfLeadingZeros_0f7a4_60 (by decide) rfl ?_
          refine zz_iload_n 61 X.1 0 dJ6_numberOfLeadingZeros_0f7a4_61 rfl ?_
          refine zz_iconst 62 X.1 (v := nI 4) dJ6_numberOfLeadingZeros_0f7a4_62 rfl ?_
          refine zz_icmp_lt 63 73 X.1 (nI_toInt (by omega)) (nI_toInt (by omega)) dJ6_numberOfLeadingZeros_0f7a4_63 (by decide) (fun h63 => ?_) (fun h63 => ?_)
          · skip
            refine zz_iload_n 73 X.1 1 dJ6_numberOfLeadingZeros_0f7a4_73 rfl ?_
            refine zz_iload_n 74 X.1 0 dJ6_numberOfLeadingZeros_0f7a4_74 rfl ?_
            refine zz_iconst 75 X.1 (v := nI 1) dJ6_numberOfLeadingZeros_0f7a4_75 rfl ?_
            refine zz_iushr 76 X.1 (v := (nI ((v / 16) / 2))) dJ6_numberOfLeadingZeros_0f7a4_76 (pk_ushrN (by omega) _ 1 (by decide)) ?_
            refine zz_isub 77 X.1 (v := (nI (27 - ((v / 16) / 2)))) dJ6_numberOfLeadingZeros_0f7a4_77 (pk_sub (by omega)) ?_
            rw [← hQ]
            refine zz_iret 78 X.1 hr rfl hlk () ?_ (fun _ _ _ => trivial) dJ6_numberOfLeadingZeros_0f7a4_78
            exact congrArg nI (by
              rcases (show t = 0 ∨ t = 1 ∨ t = 2 ∨ t = 3 ∨ t = 4 ∨ t = 5 ∨ t = 6 ∨ t = 7 ∨ t = 8 ∨ t = 9 ∨ t = 10 ∨ t = 11 ∨ t = 12 ∨ t = 13 ∨ t = 14 ∨ t = 15 ∨ t = 16 ∨ t = 17 ∨ t = 18 ∨ t = 19 ∨ t = 20 ∨ t = 21 ∨ t = 22 ∨ t = 23 ∨ t = 24 ∨ t = 25 ∨ t = 26 ∨ t = 27 ∨ t = 28 ∨ t = 29 ∨ t = 30 by omega) with rfl | rfl | rfl | rfl | rfl | rfl | rfl | rfl | rfl | rfl | rfl | rfl | rfl | rfl | rfl | rfl | rfl | rfl | rfl | rfl | rfl | rfl | rfl | rfl | rfl | rfl | rfl | rfl | rfl | rfl | rfl <;> omega)
          · skip
            refine zz_iinc 66 X.1 1 (v := (nI 25)) (lv' := [(1, .int (nI 25)), (0, .int (nI (v / 16)))]) dJ6_numberOfLeadingZeros_0f7a4_66 rfl (zn_dec 2 (by omega)) (by decide) rfl ?_
            refine zz_iload_n 69 X.1 1 dJ6_numberOfLeadingZeros_0f7a4_69 rfl ?_
            refine zz_iconst 70 X.1 (v := nI 2) dJ6_numberOfLeadingZeros_0f7a4_70 rfl ?_
            refine zz_iushr 71 X.1 (v := (nI ((v / 16) / 4))) dJ6_numberOfLeadingZeros_0f7a4_71 (pk_ushrN (by omega) _ 2 (by decide)) ?_
            refine zz_istore_n 72 X.1 (lv' := [(0, .int (nI ((v / 16) / 4))), (1, .int (nI 25))]) dJ6_numberOfLeadingZeros_0f7a4_72 (by decide) rfl ?_
            refine zz_iload_n 73 X.1 1 dJ6_numberOfLeadingZeros_0f7a4_73 rfl ?_
            refine zz_iload_n 74 X.1 0 dJ6_numberOfLeadingZeros_0f7a4_74 rfl ?_
            refine zz_iconst 75 X.1 (v := nI 1) dJ6_numberOfLeadingZeros_0f7a4_75 rfl ?_
            refine zz_iushr 76 X.1 (v := (nI (((v / 16) / 4) / 2))) dJ6_numberOfLeadingZeros_0f7a4_76 (pk_ushrN (by omega) _ 1 (by decide)) ?_
            refine zz_isub 77 X.1 (v := (nI (25 - (((v / 16) / 4) / 2)))) dJ6_numberOfLeadingZeros_0f7a4_77 (pk_sub (by omega)) ?_
            rw [← hQ]
            refine zz_iret 78 X.1 hr rfl hlk () ?_ (fun _ _ _ => trivial) dJ6_numberOfLeadingZeros_0f7a4_78
            exact congrArg nI (by
              rcases (show t = 0 ∨ t = 1 ∨ t = 2 ∨ t = 3 ∨ t = 4 ∨ t = 5 ∨ t = 6 ∨ t = 7 ∨ t = 8 ∨ t = 9 ∨ t = 10 ∨ t = 11 ∨ t = 12 ∨ t = 13 ∨ t = 14 ∨ t = 15 ∨ t = 16 ∨ t = 17 ∨ t = 18 ∨ t = 19 ∨ t = 20 ∨ t = 21 ∨ t = 22 ∨ t = 23 ∨ t = 24 ∨ t = 25 ∨ t = 26 ∨ t = 27 ∨ t = 28 ∨ t = 29 ∨ t = 30 by omega) with rfl | rfl | rfl | rfl | rfl | rfl | rfl | rfl | rfl | rfl | rfl | rfl | rfl | rfl | rfl | rfl | rfl | rfl | rfl | rfl | rfl | rfl | rfl | rfl | rfl | rfl | rfl | rfl | rfl | rfl | rfl <;> omega)
      · skip
        refine zz_iinc 40 X.1 0 (v := (nI 23)) (lv' := [(1, .int (nI 23)), (0, .int (nI v))]) dJ6_numberOfLeadingZeros_0f7a4_40 rfl (zn_dec 8 (by omega)) (by decide) rfl ?_
        refine zz_iload_n 43 X.1 1 dJ6_numberOfLeadingZeros_0f7a4_43 rfl ?_
        refine zz_bipush 44 X.1 (v := nI 8) dJ6_numberOfLeadingZeros_0f7a4_44 rfl ?_
        refine zz_iushr 46 X.1 (v := (nI (v / 256))) dJ6_numberOfLeadingZeros_0f7a4_46 (pk_ushrN (by omega) _ 8 (by decide)) ?_
        refine zz_istore_n 47 X.1 (lv' := [(0, .int (nI (v / 256))), (1, .int (nI 23))]) dJ6_numberOfLeadingZeros_0f7a4_47 (by decide) rfl ?_
        refine zz_iload_n 48 X.1 0 dJ6_numberOfLeadingZeros_0f7a4_48 rfl ?_
        refine zz_bipush 49 X.1 (v := nI 16) dJ6_numberOfLeadingZeros_0f7a4_49 rfl ?_
        refine zz_icmp_lt 51 61 X.1 (nI_toInt (by omega)) (nI_toInt (by omega)) dJ6_numberOfLeadingZeros_0f7a4_51 (by decide) (fun h51 => ?_) (fun h51 => ?_)
        · skip
          refine zz_iload_n 61 X.1 0 dJ6_numberOfLeadingZeros_0f7a4_61 rfl ?_
          refine zz_iconst 62 X.1 (v := nI 4) dJ6_numberOfLeadingZeros_0f7a4_62 rfl ?_
          refine zz_icmp_lt 63 73 X.1 (nI_toInt (by omega)) (nI_toInt (by omega)) dJ6_numberOfLeadingZeros_0f7a4_63 (by decide) (fun h63 => ?_) (fun h63 => ?_)
          · skip
            refine zz_iload_n 73 X.1 1 dJ6_numberOfLeadingZeros_0f7a4_73 rfl ?_
            refine zz_iload_n 74 X.1 0 dJ6_numberOfLeadingZeros_0f7a4_74 rfl ?_
            refine zz_iconst 75 X.1 (v := nI 1) dJ6_numberOfLeadingZeros_0f7a4_75 rfl ?_
            refine zz_iushr 76 X.1 (v := (nI ((v / 256) / 2))) dJ6_numberOfLeadingZeros_0f7a4_76 (pk_ushrN (by omega) _ 1 (by decide)) ?_
            refine zz_isub 77 X.1 (v := (nI (23 - ((v / 256) / 2)))) dJ6_numberOfLeadingZeros_0f7a4_77 (pk_sub (by omega)) ?_
            rw [← hQ]
            refine zz_iret 78 X.1 hr rfl hlk () ?_ (fun _ _ _ => trivial) dJ6_numberOfLeadingZeros_0f7a4_78
            exact congrArg nI (by
              rcases (show t = 0 ∨ t = 1 ∨ t = 2 ∨ t = 3 ∨ t = 4 ∨ t = 5 ∨ t = 6 ∨ t = 7 ∨ t = 8 ∨ t = 9 ∨ t = 10 ∨ t = 11 ∨ t = 12 ∨ t = 13 ∨ t = 14 ∨ t = 15 ∨ t = 16 ∨ t = 17 ∨ t = 18 ∨ t = 19 ∨ t = 20 ∨ t = 21 ∨ t = 22 ∨ t = 23 ∨ t = 24 ∨ t = 25 ∨ t = 26 ∨ t = 27 ∨ t = 28 ∨ t = 29 ∨ t = 30 by omega) with rfl | rfl | rfl | rfl | rfl | rfl | rfl | rfl | rfl | rfl | rfl | rfl | rfl | rfl | rfl | rfl | rfl | rfl | rfl | rfl | rfl | rfl | rfl | rfl | rfl | rfl | rfl | rfl | rfl | rfl | rfl <;> omega)
          · skip
            refine zz_iinc 66 X.1 1 (v := (nI 21)) (lv' := [(1, .int (nI 21)), (0, .int (nI (v / 256)))]) dJ6_numberOfLeadingZeros_0f7a4_66 rfl (zn_dec 2 (by omega)) (by decide) rfl ?_
            refine zz_iload_n 69 X.1 1 dJ6_numberOfLeadingZeros_0f7a4_69 rfl ?_
            refine zz_iconst 70 X.1 (v := nI 2) dJ6_numberOfLeadingZeros_0f7a4_70 rfl ?_
            refine zz_iushr 71 X.1 (v := (nI ((v / 256) / 4))) dJ6_numberOfLeadingZeros_0f7a4_71 (pk_ushrN (by omega) _ 2 (by decide)) ?_
            refine zz_istore_n 72 X.1 (lv' := [(0, .int (nI ((v / 256) / 4))), (1, .int (nI 21))]) dJ6_numberOfLeadingZeros_0f7a4_72 (by decide) rfl ?_
            refine zz_iload_n 73 X.1 1 dJ6_numberOfLeadingZeros_0f7a4_73 rfl ?_
            refine zz_iload_n 74 X.1 0 dJ6_numberOfLeadingZeros_0f7a4_74 rfl ?_
            refine zz_iconst 75 X.1 (v := nI 1) dJ6_numberOfLeadingZeros_0f7a4_75 rfl ?_
            refine zz_iushr 76 X.1 (v := (nI (((v / 256) / 4) / 2))) dJ6_numberOfLeadingZeros_0f7a4_76 (pk_ushrN (by omega) _ 1 (by decide)) ?_
            refine zz_isub 77 X.1 (v := (nI (21 - (((v / 256) / 4) / 2)))) dJ6_numberOfLeadingZeros_0f7a4_77 (pk_sub (by omega)) ?_
            rw [← hQ]
            refine zz_iret 78 X.1 hr rfl hlk () ?_ (fun _ _ _ => trivial) dJ6_numberOfLeadingZeros_0f7a4_78
            exact congrArg nI (by
              rcases (show t = 0 ∨ t = 1 ∨ t = 2 ∨ t = 3 ∨ t = 4 ∨ t = 5 ∨ t = 6 ∨ t = 7 ∨ t = 8 ∨ t = 9 ∨ t = 10 ∨ t = 11 ∨ t = 12 ∨ t = 13 ∨ t = 14 ∨ t = 15 ∨ t = 16 ∨ t = 17 ∨ t = 18 ∨ t = 19 ∨ t = 20 ∨ t = 21 ∨ t = 22 ∨ t = 23 ∨ t = 24 ∨ t = 25 ∨ t = 26 ∨ t = 27 ∨ t = 28 ∨ t = 29 ∨ t = 30 by omega) with rfl | rfl | rfl | rfl | rfl | rfl | rfl | rfl | rfl | rfl | rfl | rfl | rfl | rfl | rfl | rfl | rfl | rfl | rfl | rfl | rfl | rfl | rfl | rfl | rfl | rfl | rfl | rfl | rfl | rfl | rfl <;> omega)
        · skip
          refine zz_iinc 54 X.1 1 (v := (nI 19)) (lv' := [(1, .int (nI 19)), (0, .int (nI (v / 256)))]) dJ6_numberOfLeadingZeros_0f7a4_54 rfl (zn_dec 4 (by omega)) (by decide) rfl ?_
          refine zz_iload_n 57 X.1 1 dJ6_numberOfLeadingZeros_0f7a4_57 rfl ?_
          refine zz_iconst 58 X.1 (v := nI 4) dJ6_numberOfLeadingZeros_0f7a4_58 rfl ?_
          refine zz_iushr 59 X.1 (v := (nI ((v / 256) / 16))) dJ6_numberOfLeadingZeros_0f7a4_59 (pk_ushrN (by omega) _ 4 (by decide)) ?_
          refine zz_istore_n 60 X.1 (lv' := [(0, .int (nI ((v / 256) / 16))), (1, .int (nI 19))]) dJ6_numberOfLeadingZeros_0f7a4_60 (by decide) rfl ?_
          refine zz_iload_n 61 X.1 0 dJ6_numberOfLeadingZeros_0f7a4_61 rfl ?_
          refine zz_iconst 62 X.1 (v := nI 4) dJ6_numberOfLeadingZeros_0f7a4_62 rfl ?_
          refine zz_icmp_lt 63 73 X.1 (nI_toInt (by omega)) (nI_toInt (by omega)) dJ6_numberOfLeadingZeros_0f7a4_63 (by decide) (fun h63 => ?_) (fun h63 => ?_)
          · skip
            refine zz_iload_n 73 X.1 1 dJ6_numberOfLeadingZeros_0f7a4_73 rfl ?_
            refine zz_iload_n 74 X.1 0 dJ6_numberOfLeadingZeros_0f7a4_74 rfl ?_
            refine zz_iconst 75 X.1 (v := nI 1) dJ6_numberOfLeadingZeros_0f7a4_75 rfl ?_
            refine zz_iushr 76 X.1 (v := (nI (((v / 256) / 16) / 2))) dJ6_numberOfLeadingZeros_0f7a4_76 (pk_ushrN (by omega) _ 1 (by decide)) ?_
            refine zz_isub 77 X.1 (v := (nI (19 - (((v / 256) / 16) / 2)))) dJ6_numberOfLeadingZeros_0f7a4_77 (pk_sub (by omega)) ?_
            rw [← hQ]
            refine zz_iret 78 X.1 hr rfl hlk () ?_ (fun _ _ _ => trivial) dJ6_numberOfLeadingZeros_0f7a4_78
            exact congrArg nI (by
              rcases (show t = 0 ∨ t = 1 ∨ t = 2 ∨ t = 3 ∨ t = 4 ∨ t = 5 ∨ t = 6 ∨ t = 7 ∨ t = 8 ∨ t = 9 ∨ t = 10 ∨ t = 11 ∨ t = 12 ∨ t = 13 ∨ t = 14 ∨ t = 15 ∨ t = 16 ∨ t = 17 ∨ t = 18 ∨ t = 19 ∨ t = 20 ∨ t = 21 ∨ t = 22 ∨ t = 23 ∨ t = 24 ∨ t = 25 ∨ t = 26 ∨ t = 27 ∨ t = 28 ∨ t = 29 ∨ t = 30 by omega) with rfl | rfl | rfl | rfl | rfl | rfl | rfl | rfl | rfl | rfl | rfl | rfl | rfl | rfl | rfl | rfl | rfl | rfl | rfl | rfl | rfl | rfl | rfl | rfl | rfl | rfl | rfl | rfl | rfl | rfl | rfl <;> omega)
          · skip
            refine zz_iinc 66 X.1 1 (v := (nI 17)) (lv' := [(1, .int (nI 17)), (0, .int (nI ((v / 256) / 16)))]) dJ6_numberOfLeadingZeros_0f7a4_66 rfl (zn_dec 2 (by omega)) (by decide) rfl ?_
            refine zz_iload_n 69 X.1 1 dJ6_numberOfLeadingZeros_0f7a4_69 rfl ?_
            refine zz_iconst 70 X.1 (v := nI 2) dJ6_numberOfLeadingZeros_0f7a4_70 rfl ?_
            refine zz_iushr 71 X.1 (v := (nI (((v / 256) / 16) / 4))) dJ6_numberOfLeadingZeros_0f7a4_71 (pk_ushrN (by omega) _ 2 (by decide)) ?_
            refine zz_istore_n 72 X.1 (lv' := [(0, .int (nI (((v / 256) / 16) / 4))), (1, .int (nI 17))]) dJ6_numberOfLeadingZeros_0f7a4_72 (by decide) rfl ?_
            refine zz_iload_n 73 X.1 1 dJ6_numberOfLeadingZeros_0f7a4_73 rfl ?_
            refine zz_iload_n 74 X.1 0 dJ6_numberOfLeadingZeros_0f7a4_74 rfl ?_
            refine zz_iconst 75 X.1 (v := nI 1) dJ6_numberOfLeadingZeros_0f7a4_75 rfl ?_
            refine zz_iushr 76 X.1 (v := (nI ((((v / 256) / 16) / 4) / 2))) dJ6_numberOfLeadingZeros_0f7a4_76 (pk_ushrN (by omega) _ 1 (by decide)) ?_
            refine zz_isub 77 X.1 (v := (nI (17 - ((((v / 256) / 16) / 4) / 2)))) dJ6_numberOfLeadingZeros_0f7a4_77 (pk_sub (by omega)) ?_
            rw [← hQ]
            refine zz_iret 78 X.1 hr rfl hlk () ?_ (fun _ _ _ => trivial) dJ6_numberOfLeadingZeros_0f7a4_78
            exact congrArg nI (by
              rcases (show t = 0 ∨ t = 1 ∨ t = 2 ∨ t = 3 ∨ t = 4 ∨ t = 5 ∨ t = 6 ∨ t = 7 ∨ t = 8 ∨ t = 9 ∨ t = 10 ∨ t = 11 ∨ t = 12 ∨ t = 13 ∨ t = 14 ∨ t = 15 ∨ t = 16 ∨ t = 17 ∨ t = 18 ∨ t = 19 ∨ t = 20 ∨ t = 21 ∨ t = 22 ∨ t = 23 ∨ t = 24 ∨ t = 25 ∨ t = 26 ∨ t = 27 ∨ t = 28 ∨ t = 29 ∨ t = 30 by omega) with rfl | rfl | rfl | rfl | rfl | rfl | rfl | rfl | rfl | rfl | rfl | rfl | rfl | rfl | rfl | rfl | rfl | rfl | rfl | rfl | rfl | rfl | rfl | rfl | rfl | rfl | rfl | rfl | rfl | rfl | rfl <;> omega)
    · skip
      refine zz_iinc 25 X.1 0 (v := (nI 15)) (lv' := [(1, .int (nI 15)), (0, .int (nI v))]) dJ6_numberOfLeadingZeros_0f7a4_25 rfl (zn_dec 16 (by omega)) (by decide) rfl ?_
      refine zz_iload_n 28 X.1 1 dJ6_numberOfLeadingZeros_0f7a4_28 rfl ?_
      refine zz_bipush 29 X.1 (v := nI 16) dJ6_numberOfLeadingZeros_0f7a4_29 rfl ?_
      refine zz_iushr 31 X.1 (v := (nI (v / 65536))) dJ6_numberOfLeadingZeros_0f7a4_31 (pk_ushrN (by omega) _ 16 (by decide)) ?_
      refine zz_istore_n 32 X.1 (lv' := [(0, .int (nI (v / 65536))), (1, .int (nI 15))]) dJ6_numberOfLeadingZeros_0f7a4_32 (by decide) rfl ?_
      refine zz_iload_n 33 X.1 0 dJ6_numberOfLeadingZeros_0f7a4_33 rfl ?_
      refine zz_sipush 34 X.1 (v := nI 256) dJ6_numberOfLeadingZeros_0f7a4_34 rfl ?_
      refine zz_icmp_lt 37 48 X.1 (nI_toInt (by omega)) (nI_toInt (by omega)) dJ6_numberOfLeadingZeros_0f7a4_37 (by decide) (fun h37 => ?_) (fun h37 => ?_)
      · skip
        refine zz_iload_n 48 X.1 0 dJ6_numberOfLeadingZeros_0f7a4_48 rfl ?_
        refine zz_bipush 49 X.1 (v := nI 16) dJ6_numberOfLeadingZeros_0f7a4_49 rfl ?_
        refine zz_icmp_lt 51 61 X.1 (nI_toInt (by omega)) (nI_toInt (by omega)) dJ6_numberOfLeadingZeros_0f7a4_51 (by decide) (fun h51 => ?_) (fun h51 => ?_)
        · skip
          refine zz_iload_n 61 X.1 0 dJ6_numberOfLeadingZeros_0f7a4_61 rfl ?_
          refine zz_iconst 62 X.1 (v := nI 4) dJ6_numberOfLeadingZeros_0f7a4_62 rfl ?_
          refine zz_icmp_lt 63 73 X.1 (nI_toInt (by omega)) (nI_toInt (by omega)) dJ6_numberOfLeadingZeros_0f7a4_63 (by decide) (fun h63 => ?_) (fun h63 => ?_)
          · skip
            refine zz_iload_n 73 X.1 1 dJ6_numberOfLeadingZeros_0f7a4_73 rfl ?_
            refine zz_iload_n 74 X.1 0 dJ6_numberOfLeadingZeros_0f7a4_74 rfl ?_
            refine zz_iconst 75 X.1 (v := nI 1) dJ6_numberOfLeadingZeros_0f7a4_75 rfl ?_
            refine zz_iushr 76 X.1 (v := (nI ((v / 65536) / 2))) dJ6_numberOfLeadingZeros_0f7a4_76 (pk_ushrN (by omega) _ 1 (by decide)) ?_
            refine zz_isub 77 X.1 (v := (nI (15 - ((v / 65536) / 2)))) dJ6_numberOfLeadingZeros_0f7a4_77 (pk_sub (by omega)) ?_
            rw [← hQ]
            refine zz_iret 78 X.1 hr rfl hlk () ?_ (fun _ _ _ => trivial) dJ6_numberOfLeadingZeros_0f7a4_78
            exact congrArg nI (by
              rcases (show t = 0 ∨ t = 1 ∨ t = 2 ∨ t = 3 ∨ t = 4 ∨ t = 5 ∨ t = 6 ∨ t = 7 ∨ t = 8 ∨ t = 9 ∨ t = 10 ∨ t = 11 ∨ t = 12 ∨ t = 13 ∨ t = 14 ∨ t = 15 ∨ t = 16 ∨ t = 17 ∨ t = 18 ∨ t = 19 ∨ t = 20 ∨ t = 21 ∨ t = 22 ∨ t = 23 ∨ t = 24 ∨ t = 25 ∨ t = 26 ∨ t = 27 ∨ t = 28 ∨ t = 29 ∨ t = 30 by omega) with rfl | rfl | rfl | rfl | rfl | rfl | rfl | rfl | rfl | rfl | rfl | rfl | rfl | rfl | rfl | rfl | rfl | rfl | rfl | rfl | rfl | rfl | rfl | rfl | rfl | rfl | rfl | rfl | rfl | rfl | rfl <;> omega)
          · skip
            refine zz_iinc 66 X.1 1 (v := (nI 13)) (lv' := [(1, .int (nI 13)), (0, .int (nI (v / 65536)))]) dJ6_numberOfLeadingZeros_0f7a4_66 rfl (zn_dec 2 (by omega)) (by decide) rfl ?_
            refine zz_iload_n 69 X.1 1 dJ6_numberOfLeadingZeros_0f7a4_69 rfl ?_
            refine zz_iconst 70 X.1 (v := nI 2) dJ6_numberOfLeadingZeros_0f7a4_70 rfl ?_
            refine zz_iushr 71 X.1 (v := (nI ((v / 65536) / 4))) dJ6_numberOfLeadingZeros_0f7a4_71 (pk_ushrN (by omega) _ 2 (by decide)) ?_
            refine zz_istore_n 72 X.1 (lv' := [(0, .int (nI ((v / 65536) / 4))), (1, .int (nI 13))]) dJ6_numberOfLeadingZeros_0f7a4_72 (by decide) rfl ?_
            refine zz_iload_n 73 X.1 1 dJ6_numberOfLeadingZeros_0f7a4_73 rfl ?_
            refine zz_iload_n 74 X.1 0 dJ6_numberOfLeadingZeros_0f7a4_74 rfl ?_
            refine zz_iconst 75 X.1 (v := nI 1) dJ6_numberOfLeadingZeros_0f7a4_75 rfl ?_
            refine zz_iushr 76 X.1 (v := (nI (((v / 65536) / 4) / 2))) dJ6_numberOfLeadingZeros_0f7a4_76 (pk_ushrN (by omega) _ 1 (by decide)) ?_
            refine zz_isub 77 X.1 (v := (nI (13 - (((v / 65536) / 4) / 2)))) dJ6_numberOfLeadingZeros_0f7a4_77 (pk_sub (by omega)) ?_
            rw [← hQ]
            refine zz_iret 78 X.1 hr rfl hlk () ?_ (fun _ _ _ => trivial) dJ6_numberOfLeadingZeros_0f7a4_78
            exact congrArg nI (by
              rcases (show t = 0 ∨ t = 1 ∨ t = 2 ∨ t = 3 ∨ t = 4 ∨ t = 5 ∨ t = 6 ∨ t = 7 ∨ t = 8 ∨ t = 9 ∨ t = 10 ∨ t = 11 ∨ t = 12 ∨ t = 13 ∨ t = 14 ∨ t = 15 ∨ t = 16 ∨ t = 17 ∨ t = 18 ∨ t = 19 ∨ t = 20 ∨ t = 21 ∨ t = 22 ∨ t = 23 ∨ t = 24 ∨ t = 25 ∨ t = 26 ∨ t = 27 ∨ t = 28 ∨ t = 29 ∨ t = 30 by omega) with rfl | rfl | rfl | rfl | rfl | rfl | rfl | rfl | rfl | rfl | rfl | rfl | rfl | rfl | rfl | rfl | rfl | rfl | rfl | rfl | rfl | rfl | rfl | rfl | rfl | rfl | rfl | rfl | rfl | rfl | rfl <;> omega)
        · skip
          refine zz_iinc 54 X.1 1 (v := (nI 11)) (lv' := [(1, .int (nI 11)), (0, .int (nI (v / 65536)))]) dJ6_numberOfLeadingZeros_0f7a4_54 rfl (zn_dec 4 (by omega)) (by decide) rfl ?_
          refine zz_iload_n 57 X.1 1 dJ6_numberOfLeadingZeros_0f7a4_57 rfl ?_
          refine zz_iconst 58 X.1 (v := nI 4) dJ6_numberOfLeadingZeros_0f7a4_58 rfl ?_
          refine zz_iushr 59 X.1 (v := (nI ((v / 65536) / 16))) dJ6_numberOfLeadingZeros_0f7a4_59 (pk_ushrN (by omega) _ 4 (by decide)) ?_
          refine zz_istore_n 60 X.1 (lv' := [(0, .int (nI ((v / 65536) / 16))), (1, .int (nI 11))]) dJ6_numberOfLeadingZeros_0f7a4_60 (by decide) rfl ?_
          refine zz_iload_n 61 X.1 0 dJ6_numberOfLeadingZeros_0f7a4_61 rfl ?_
          refine zz_iconst 62 X.1 (v := nI 4) dJ6_numberOfLeadingZeros_0f7a4_62 rfl ?_
          refine zz_icmp_lt 63 73 X.1 (nI_toInt (by omega)) (nI_toInt (by omega)) dJ6_numberOfLeadingZeros_0f7a4_63 (by decide) (fun h63 => ?_) (fun h63 => ?_)
          · skip
            refine zz_iload_n 73 X.1 1 dJ6_numberOfLeadingZeros_0f7a4_73 rfl ?_
            refine zz_iload_n 74 X.1 0 dJ6_numberOfLeadingZeros_0f7a4_74 rfl ?_
            refine zz_iconst 75 X.1 (v := nI 1) dJ6_numberOfLeadingZeros_0f7a4_75 rfl ?_
            refine zz_iushr 76 X.1 (v := (nI (((v / 65536) / 16) / 2))) dJ6_numberOfLeadingZeros_0f7a4_76 (pk_ushrN (by omega) _ 1 (by decide)) ?_
            refine zz_isub 77 X.1 (v := (nI (11 - (((v / 65536) / 16) / 2)))) dJ6_numberOfLeadingZeros_0f7a4_77 (pk_sub (by omega)) ?_
            rw [← hQ]
            refine zz_iret 78 X.1 hr rfl hlk () ?_ (fun _ _ _ => trivial) dJ6_numberOfLeadingZeros_0f7a4_78
            exact congrArg nI (by
              rcases (show t = 0 ∨ t = 1 ∨ t = 2 ∨ t = 3 ∨ t = 4 ∨ t = 5 ∨ t = 6 ∨ t = 7 ∨ t = 8 ∨ t = 9 ∨ t = 10 ∨ t = 11 ∨ t = 12 ∨ t = 13 ∨ t = 14 ∨ t = 15 ∨ t = 16 ∨ t = 17 ∨ t = 18 ∨ t = 19 ∨ t = 20 ∨ t = 21 ∨ t = 22 ∨ t = 23 ∨ t = 24 ∨ t = 25 ∨ t = 26 ∨ t = 27 ∨ t = 28 ∨ t = 29 ∨ t = 30 by omega) with rfl | rfl | rfl | rfl | rfl | rfl | rfl | rfl | rfl | rfl | rfl | rfl | rfl | rfl | rfl | rfl | rfl | rfl | rfl | rfl | rfl | rfl | rfl | rfl | rfl | rfl | rfl | rfl | rfl | rfl | rfl <;> omega)
          · skip
            refine zz_iinc 66 X.1 1 (v := (nI 9)) (lv' := [(1, .int (nI 9)), (0, .int (nI ((v / 65536) / 16)))]) dJ6_numberOfLeadingZeros_0f7a4_66 rfl (zn_dec 2 (by omega)) (by decide) rfl ?_
            refine zz_iload_n 69 X.1 1 dJ6_numberOfLeadingZeros_0f7a4_69 rfl ?_
            refine zz_iconst 70 X.1 (v := nI 2) dJ6_numberOfLeadingZeros_0f7a4_70 rfl ?_
            refine zz_iushr 71 X.1 (v := (nI (((v / 65536) / 16) / 4))) dJ6_numberOfLeadingZeros_0f7a4_71 (pk_ushrN (by omega) _ 2 (by decide)) ?_
            refine zz_istore_n 72 X.1 (lv' := [(0, .int (nI (((v / 65536) / 16) / 4))), (1, .int (nI 9))]) dJ6_numberOfLeadingZeros_0f7a4_72 (by decide) rfl ?_
            refine zz_iload_n 73 X.1 1 dJ6_numberOfLeadingZeros_0f7a4_73 rfl ?_
            refine zz_iload_n 74 X.1 0 dJ6_numberOfLeadingZeros_0f7a4_74 rfl ?_
            refine zz_iconst 75 X.1 (v := nI 1) dJ6_numberOfLeadingZeros_0f7a4_75 rfl ?_
            refine zz_iushr 76 X.1 (v := (nI ((((v / 65536) / 16) / 4) / 2))) dJ6_numberOfLeadingZeros_0f7a4_76 (pk_ushrN (by omega) _ 1 (by decide)) ?_
            refine zz_isub 77 X.1 (v := (nI (9 - ((((v / 65536) / 16) / 4) / 2)))) dJ6_numberOfLeadingZeros_0f7a4_77 (pk_sub (by omega)) ?_
            rw [← hQ]
            refine zz_iret 78 X.1 hr rfl hlk () ?_ (fun _ _ _ => trivial) dJ6_numberOfLeadingZeros_0f7a4_78
            exact congrArg nI (by
              rcases (show t = 0 ∨ t = 1 ∨ t = 2 ∨ t = 3 ∨ t = 4 ∨ t = 5 ∨ t = 6 ∨ t = 7 ∨ t = 8 ∨ t = 9 ∨ t = 10 ∨ t = 11 ∨ t = 12 ∨ t = 13 ∨ t = 14 ∨ t = 15 ∨ t = 16 ∨ t = 17 ∨ t = 18 ∨ t = 19 ∨ t = 20 ∨ t = 21 ∨ t = 22 ∨ t = 23 ∨ t = 24 ∨ t = 25 ∨ t = 26 ∨ t = 27 ∨ t = 28 ∨ t = 29 ∨ t = 30 by omega) with rfl | rfl | rfl | rfl | rfl | rfl | rfl | rfl | rfl | rfl | rfl | rfl | rfl | rfl | rfl | rfl | rfl | rfl | rfl | rfl | rfl | rfl | rfl | rfl | rfl | rfl | rfl | rfl | rfl | rfl | rfl <;> omega)
      · skip
        refine zz_iinc 40 X.1 1 (v := (nI 7)) (lv' := [(1, .int (nI 7)), (0, .int (nI (v / 65536)))]) dJ6_numberOfLeadingZeros_0f7a4_40 rfl (zn_dec 8 (by omega)) (by decide) rfl ?_
        refine zz_iload_n 43 X.1 1 dJ6_numberOfLeadingZeros_0f7a4_43 rfl ?_
        refine zz_bipush 44 X.1 (v := nI 8) dJ6_numberOfLeadingZeros_0f7a4_44 rfl ?_
        refine zz_iushr 46 X.1 (v := (nI ((v / 65536) / 256))) dJ6_numberOfLeadingZeros_0f7a4_46 (pk_ushrN (by omega) _ 8 (by decide)) ?_
        refine zz_istore_n 47 X.1 (lv' := [(0, .int (nI ((v / 65536) / 256))), (1, .int (nI 7))]) dJ6_numberOfLeadingZeros_0f7a4_47 (by decide) rfl ?_
        refine zz_iload_n 48 X.1 0 dJ6_numberOfLeadingZeros_0f7a4_48 rfl ?_
        refine zz_bipush 49 X.1 (v := nI 16) dJ6_numberOfLeadingZeros_0f7a4_49 rfl ?_
        refine zz_icmp_lt 51 61 X.1 (nI_toInt (by omega)) (nI_toInt (by omega)) dJ6_numberOfLeadingZeros_0f7a4_51 (by decide) (fun h51 => ?_) (fun h51 => ?_)
        · skip
          refine zz_iload_n 61 X.1 0 dJ6_numberOfLeadingZeros_0f7a4_61 rfl ?_
          refine zz_iconst 62 X.1 (v := nI 4) dJ6_numberOfLeadingZeros_0f7a4_62 rfl ?_
          refine zz_icmp_lt 63 73 X.1 (nI_toInt (by omega)) (nI_toInt (by omega)) dJ6_numberOfLeadingZeros_0f7a4_63 (by decide) (fun h63 => ?_) (fun h63 => ?_)
          · skip
            refine zz_iload_n 73 X.1 1 dJ6_numberOfLeadingZeros_0f7a4_73 rfl ?_
            refine zz_iload_n 74 X.1 0 dJ6_numberOfLeadingZeros_0f7a4_74 rfl ?_
            refine zz_iconst 75 X.1 (v := nI 1) dJ6_numberOfLeadingZeros_0f7a4_75 rfl ?_
            refine zz_iushr 76 X.1 (v := (nI (((v / 65536) / 256) / 2))) dJ6_numberOfLeadingZeros_0f7a4_76 (pk_ushrN (by omega) _ 1 (by decide)) ?_
            refine zz_isub 77 X.1 (v := (nI (7 - (((v / 65536) / 256) / 2)))) dJ6_numberOfLeadingZeros_0f7a4_77 (pk_sub (by omega)) ?_
            rw [← hQ]
            refine zz_iret 78 X.1 hr rfl hlk () ?_ (fun _ _ _ => trivial) dJ6_numberOfLeadingZeros_0f7a4_78
            exact congrArg nI (by
              rcases (show t = 0 ∨ t = 1 ∨ t = 2 ∨ t = 3 ∨ t = 4 ∨ t = 5 ∨ t = 6 ∨ t = 7 ∨ t = 8 ∨ t = 9 ∨ t = 10 ∨ t = 11 ∨ t = 12 ∨ t = 13 ∨ t = 14 ∨ t = 15 ∨ t = 16 ∨ t = 17 ∨ t = 18 ∨ t = 19 ∨ t = 20 ∨ t = 21 ∨ t = 22 ∨ t = 23 ∨ t = 24 ∨ t = 25 ∨ t = 26 ∨ t = 27 ∨ t = 28 ∨ t = 29 ∨ t = 30 by omega) with rfl | rfl | rfl | rfl | rfl | rfl | rfl | rfl | rfl | rfl | rfl | rfl | rfl | rfl | rfl | rfl | rfl | rfl | rfl | rfl | rfl | rfl | rfl | rfl | rfl | rfl | rfl | rfl | rfl | rfl | rfl <;> omega)
          · skip
            refine zz_iinc 66 X.1 1 (v := (nI 5)) (lv' := [(1, .int (nI 5)), (0, .int (nI ((v / 65536) / 256)))]) dJ6_numberOfLeadingZeros_0f7a4_66 rfl (zn_dec 2 (by omega)) (by decide) rfl ?_
            refine zz_iload_n 69 X.1 1 dJ6_numberOfLeadingZeros_0f7a4_69 rfl ?_
            refine zz_iconst 70 X.1 (v := nI 2) dJ6_numberOfLeadingZeros_0f7a4_70 rfl ?_
            refine zz_iushr 71 X.1 (v := (nI (((v / 65536) / 256) / 4))) dJ6_numberOfLeadingZeros_0f7a4_71 (pk_ushrN (by omega) _ 2 (by decide)) ?_
            refine zz_istore_n 72 X.1 (lv' := [(0, .int (nI (((v / 65536) / 256) / 4))), (1, .int (nI 5))]) dJ6_numberOfLeadingZeros_0f7a4_72 (by decide) rfl ?_
            refine zz_iload_n 73 X.1 1 dJ6_numberOfLeadingZeros_0f7a4_73 rfl ?_
            refine zz_iload_n 74 X.1 0 dJ6_numberOfLeadingZeros_0f7a4_74 rfl ?_
            refine zz_iconst 75 X.1 (v := nI 1) dJ6_numberOfLeadingZeros_0f7a4_75 rfl ?_
            refine zz_iushr 76 X.1 (v := (nI ((((v / 65536) / 256) / 4) / 2))) dJ6_numberOfLeadingZeros_0f7a4_76 (pk_ushrN (by omega) _ 1 (by decide)) ?_
            refine zz_isub 77 X.1 (v := (nI (5 - ((((v / 65536) / 256) / 4) / 2)))) dJ6_numberOfLeadingZeros_0f7a4_77 (pk_sub (by omega)) ?_
            rw [← hQ]
            refine zz_iret 78 X.1 hr rfl hlk () ?_ (fun _ _ _ => trivial) dJ6_numberOfLeadingZeros_0f7a4_78
            exact congrArg nI (by
              rcases (show t = 0 ∨ t = 1 ∨ t = 2 ∨ t = 3 ∨ t = 4 ∨ t = 5 ∨ t = 6 ∨ t = 7 ∨ t = 8 ∨ t = 9 ∨ t = 10 ∨ t = 11 ∨ t = 12 ∨ t = 13 ∨ t = 14 ∨ t = 15 ∨ t = 16 ∨ t = 17 ∨ t = 18 ∨ t = 19 ∨ t = 20 ∨ t = 21 ∨ t = 22 ∨ t = 23 ∨ t = 24 ∨ t = 25 ∨ t = 26 ∨ t = 27 ∨ t = 28 ∨ t = 29 ∨ t = 30 by omega) with rfl | rfl | rfl | rfl | rfl | rfl | rfl | rfl | rfl | rfl | rfl | rfl | rfl | rfl | rfl | rfl | rfl | rfl | rfl | rfl | rfl | rfl | rfl | rfl | rfl | rfl | rfl | rfl | rfl | rfl | rfl <;> omega)
        · skip
          refine zz_iinc 54 X.1 1 (v := (nI 3)) (lv' := [(1, .int (nI 3)), (0, .int (nI ((v / 65536) / 256)))]) dJ6_numberOfLeadingZeros_0f7a4_54 rfl (zn_dec 4 (by omega)) (by decide) rfl ?_
          refine zz_iload_n 57 X.1 1 dJ6_numberOfLeadingZeros_0f7a4_57 rfl ?_
          refine zz_iconst 58 X.1 (v := nI 4) dJ6_numberOfLeadingZeros_0f7a4_58 rfl ?_
          refine zz_iushr 59 X.1 (v := (nI (((v / 65536) / 256) / 16))) dJ6_numberOfLeadingZeros_0f7a4_59 (pk_ushrN (by omega) _ 4 (by decide)) ?_
          refine zz_istore_n 60 X.1 (lv' := [(0, .int (nI (((v / 65536) / 256) / 16))), (1, .int (nI 3))]) dJ6_numberOfLeadingZeros_0f7a4_60 (by decide) rfl ?_
          refine zz_iload_n 61 X.1 0 dJ6_numberOfLeadingZeros_0f7a4_61 rfl ?_
          refine zz_iconst 62 X.1 (v := nI 4) dJ6_numberOfLeadingZeros_0f7a4_62 rfl ?_
          refine zz_icmp_lt 63 73 X.1 (nI_toInt (by omega)) (nI_toInt (by omega)) dJ6_numberOfLeadingZeros_0f7a4_63 (by decide) (fun h63 => ?_) (fun h63 => ?_)
          · skip
            refine zz_iload_n 73 X.1 1 dJ6_numberOfLeadingZeros_0f7a4_73 rfl ?_
            refine zz_iload_n 74 X.1 0 dJ6_numberOfLeadingZeros_0f7a4_74 rfl ?_
            refine zz_iconst 75 X.1 (v := nI 1) dJ6_numberOfLeadingZeros_0f7a4_75 rfl ?_
            refine zz_iushr 76 X.1 (v := (nI ((((v / 65536) / 256) / 16) / 2))) dJ6_numberOfLeadingZeros_0f7a4_76 (pk_ushrN (by omega) _ 1 (by decide)) ?_
            refine zz_isub 77 X.1 (v := (nI (3 - ((((v / 65536) / 256) / 16) / 2)))) dJ6_numberOfLeadingZeros_0f7a4_77 (pk_sub (by omega)) ?_
            rw [← hQ]
            refine zz_iret 78 X.1 hr rfl hlk () ?_ (fun _ _ _ => trivial) dJ6_numberOfLeadingZeros_0f7a4_78
            exact congrArg nI (by
              rcases (show t = 0 ∨ t = 1 ∨ t = 2 ∨ t = 3 ∨ t = 4 ∨ t = 5 ∨ t = 6 ∨ t = 7 ∨ t = 8 ∨ t = 9 ∨ t = 10 ∨ t = 11 ∨ t = 12 ∨ t = 13 ∨ t = 14 ∨ t = 15 ∨ t = 16 ∨ t = 17 ∨ t = 18 ∨ t = 19 ∨ t = 20 ∨ t = 21 ∨ t = 22 ∨ t = 23 ∨ t = 24 ∨ t = 25 ∨ t = 26 ∨ t = 27 ∨ t = 28 ∨ t = 29 ∨ t = 30 by omega) with rfl | rfl | rfl | rfl | rfl | rfl | rfl | rfl | rfl | rfl | rfl | rfl | rfl | rfl | rfl | rfl | rfl | rfl | rfl | rfl | rfl | rfl | rfl | rfl | rfl | rfl | rfl | rfl | rfl | rfl | rfl <;> omega)
          · skip
            refine zz_iinc 66 X.1 1 (v := (nI 1)) (lv' := [(1, .int (nI 1)), (0, .int (nI (((v / 65536) / 256) / 16)))]) dJ6_numberOfLeadingZeros_0f7a4_66 rfl (zn_dec 2 (by omega)) (by decide) rfl ?_
            refine zz_iload_n 69 X.1 1 dJ6_numberOfLeadingZeros_0f7a4_69 rfl ?_
            refine zz_iconst 70 X.1 (v := nI 2) dJ6_numberOfLeadingZeros_0f7a4_70 rfl ?_
            refine zz_iushr 71 X.1 (v := (nI ((((v / 65536) / 256) / 16) / 4))) dJ6_numberOfLeadingZeros_0f7a4_71 (pk_ushrN (by omega) _ 2 (by decide)) ?_
            refine zz_istore_n 72 X.1 (lv' := [(0, .int (nI ((((v / 65536) / 256) / 16) / 4))), (1, .int (nI 1))]) dJ6_numberOfLeadingZeros_0f7a4_72 (by decide) rfl ?_
            refine zz_iload_n 73 X.1 1 dJ6_numberOfLeadingZeros_0f7a4_73 rfl ?_
            refine zz_iload_n 74 X.1 0 dJ6_numberOfLeadingZeros_0f7a4_74 rfl ?_
            refine zz_iconst 75 X.1 (v := nI 1) dJ6_numberOfLeadingZeros_0f7a4_75 rfl ?_
            refine zz_iushr 76 X.1 (v := (nI (((((v / 65536) / 256) / 16) / 4) / 2))) dJ6_numberOfLeadingZeros_0f7a4_76 (pk_ushrN (by omega) _ 1 (by decide)) ?_
            refine zz_isub 77 X.1 (v := (nI (1 - (((((v / 65536) / 256) / 16) / 4) / 2)))) dJ6_numberOfLeadingZeros_0f7a4_77 (pk_sub (by omega)) ?_
            rw [← hQ]
            refine zz_iret 78 X.1 hr rfl hlk () ?_ (fun _ _ _ => trivial) dJ6_numberOfLeadingZeros_0f7a4_78
            exact congrArg nI (by
              rcases (show t = 0 ∨ t = 1 ∨ t = 2 ∨ t = 3 ∨ t = 4 ∨ t = 5 ∨ t = 6 ∨ t = 7 ∨ t = 8 ∨ t = 9 ∨ t = 10 ∨ t = 11 ∨ t = 12 ∨ t = 13 ∨ t = 14 ∨ t = 15 ∨ t = 16 ∨ t = 17 ∨ t = 18 ∨ t = 19 ∨ t = 20 ∨ t = 21 ∨ t = 22 ∨ t = 23 ∨ t = 24 ∨ t = 25 ∨ t = 26 ∨ t = 27 ∨ t = 28 ∨ t = 29 ∨ t = 30 by omega) with rfl | rfl | rfl | rfl | rfl | rfl | rfl | rfl | rfl | rfl | rfl | rfl | rfl | rfl | rfl | rfl | rfl | rfl | rfl | rfl | rfl | rfl | rfl | rfl | rfl | rfl | rfl | rfl | rfl | rfl | rfl <;> omega)
  · exfalso; omega
set_option maxHeartbeats 4000000 in
set_option maxRecDepth 100000 in
theorem kt_J6_nLZ_n (l : Launch) (x0 : Int32) (a : Int) (h_a : x0.toInt = a) (hn : a < 0) : SMi l yJ6_numberOfLeadingZeros_0f7a4 wsJ6_numberOfLeadingZeros_0f7a4 rm_J6_numberOfLeadingZeros_0f7a4 [.int x0] (fun (r : Int32) => r = (nI 0)) := by
  refine SMi_of (lv := [(0, .int x0)]) (cc := cJ6_numberOfLeadingZeros_0f7a4) (maxL := 2) (ret := (some .int)) rfl (by decide +kernel) (Nat.le_of_ble_eq_true rfl) rfl ?_
  intro p e s m args below meth c hc hts hown hml hr hlk
  have X : (p.tables.exec = Jvm.exec ∧ c.code = cJ6_numberOfLeadingZeros_0f7a4) ∧ True := ⟨hc, trivial⟩
  generalize hQ : MQ below _ args s 0 0 _ = Q
  refine zz_iload_n 0 X.1 0 dJ6_numberOfLeadingZeros_0f7a4_0 rfl ?_
  refine zz_if_gt 1 15 X.1 h_a dJ6_numberOfLeadingZeros_0f7a4_1 (by decide) (fun h1 => ?_) (fun h1 => ?_)
  · exfalso; omega
  · skip
    refine zz_iload_n 4 X.1 0 dJ6_numberOfLeadingZeros_0f7a4_4 rfl ?_
    refine zz_if_ne 5 13 X.1 h_a dJ6_numberOfLeadingZeros_0f7a4_5 (by decide) (fun h5 => ?_) (fun h5 => ?_)
    · skip
      refine zz_iconst 13 X.1 (v := nI 0) dJ6_numberOfLeadingZeros_0f7a4_13 rfl ?_
      rw [← hQ]
      refine zz_iret 14 X.1 hr rfl hlk () ?_ (fun _ _ _ => trivial) dJ6_numberOfLeadingZeros_0f7a4_14
      rfl
    · exfalso; omega
theorem kt_J6_numberOfLeadingZeros_0f7a4 (l : Launch) (x0 : Int32) (t : Nat) (ht : t < 32) (h1 : x0.toBitVec.getLsbD t = true) (h2 : ∀ j, t < j → j < 32 → x0.toBitVec.getLsbD j = false) : SMi l yJ6_numberOfLeadingZeros_0f7a4 wsJ6_numberOfLeadingZeros_0f7a4 rm_J6_numberOfLeadingZeros_0f7a4 [.int x0] (fun (r : Int32) => r = (nI (31 - t))) := by
  rcases (show t = 31 ∨ t < 31 by omega) with rfl | z
  · exact kt_J6_nLZ_n l x0 _ rfl (lz_neg h1)
  · obtain ⟨v, rfl, h3, h4⟩ := lz_v z h1 h2
    exact kt_J6_nLZ_v l v t z h3 h4
abbrev rm_J13_numberOfTrailingZeros_95d88 : Room := { frames := 1, cells := 0, slots := 0, locals := 21 }
theorem yd_J13_numberOfTrailingZeros_95d88 : yJ13_numberOfTrailingZeros_95d88.cls = RJ13 ∧ yJ13_numberOfTrailingZeros_95d88.cls ≠ "java/lang/invoke/MethodHandle" ∧ yJ13_numberOfTrailingZeros_95d88.cls ≠ "java/lang/invoke/VarHandle" ∧ (parseMethodDescriptor yJ13_numberOfTrailingZeros_95d88.desc).map (fun d => d.parameters.length) = some 1 := by decide +kernel
set_option maxHeartbeats 4000000 in
set_option maxRecDepth 100000 in
theorem kt_J13_numberOfTrailingZeros_95d88 (l : Launch) (x0 : Int64) (t : Nat) (ht : t < 64) (h1 : x0.toBitVec.getLsbD t = true) (h2 : ∀ j, j < t → x0.toBitVec.getLsbD j = false) : SMi l yJ13_numberOfTrailingZeros_95d88 wsJ13_numberOfTrailingZeros_95d88 rm_J13_numberOfTrailingZeros_95d88 [.long x0] (fun (r : Int32) => r = (nI t)) := by
  refine SMi_of (lv := [(0, .long x0)]) (cc := cJ13_numberOfTrailingZeros_95d88) (maxL := 3) (ret := (some .int)) rfl (by decide +kernel) (Nat.le_of_ble_eq_true rfl) rfl ?_
  intro p e s m args below meth c hc hts hown hml hr hlk
  have X : (p.tables.exec = Jvm.exec ∧ c.code = cJ13_numberOfTrailingZeros_95d88) ∧ True := ⟨hc, trivial⟩
  generalize hQ : MQ below _ args s 0 0 _ = Q
  refine zz_lload_n 0 X.1 0 dJ13_numberOfTrailingZeros_95d88_0 rfl ?_
  refine zz_l2i 1 X.1 (v := x0.toInt32) dJ13_numberOfTrailingZeros_95d88_1 rfl ?_
  refine zz_istore_n 2 X.1 (lv' := [(2, .int x0.toInt32), (0, .long x0)]) dJ13_numberOfTrailingZeros_95d88_2 (by decide) rfl ?_
  refine zz_iload_n 3 X.1 0 dJ13_numberOfTrailingZeros_95d88_3 rfl ?_
  refine zz_if_ne 4 21 X.1 rfl dJ13_numberOfTrailingZeros_95d88_4 (by decide) (fun h4 => ?_) (fun h4 => ?_)
  · skip
    have h32 : t < 32 := Nat.lt_of_not_le (fun z => h4 (tz_hi ht z h1 h2).2.2)
    have h3 := tz_lo h32 h1 h2
    refine zz_iload_n 21 X.1 0 dJ13_numberOfTrailingZeros_95d88_21 rfl ?_
    refine zz_callS0i 22 ⟨X.1.1, X.1.2, hml, hown, hts⟩ (fun q h => Or.inr h) (fun _ _ h _ _ => h) (As := [.int x0.toInt32]) (kt_J6_numberOfTrailingZeros_0f7a4 l x0.toInt32 t (h32) (h3.1) (h3.2.1)) gJ13_numberOfTrailingZeros_95d88_J6_numberOfTrailingZeros_0f7a4 rfl ⟨rfl, rfl⟩ yd_J6_numberOfTrailingZeros_0f7a4.2 ⟨Nat.le_of_ble_eq_true rfl, Nat.le_of_ble_eq_true rfl⟩ rfl rfl (Nat.le_of_ble_eq_true rfl) ⟨Nat.zero_le _, Nat.zero_le _⟩ dJ13_numberOfTrailingZeros_95d88_22 ?_
    intro r1 hu1
    obtain rfl := hu1
    rw [← hQ]
    refine zz_iret 25 X.1 hr rfl hlk () ?_ (fun _ _ _ => trivial) dJ13_numberOfTrailingZeros_95d88_25
    first | rfl | exact congrArg nI (by omega)
  · skip
    have h32 : 32 ≤ t := Nat.le_of_not_lt (fun z => (tz_lo z h1 h2).2.2 h4)
    have h3 := tz_hi ht h32 h1 h2
    refine zz_bipush 7 X.1 (v := nI 32) dJ13_numberOfTrailingZeros_95d88_7 rfl ?_
    refine zz_lload_n 9 X.1 1 dJ13_numberOfTrailingZeros_95d88_9 rfl ?_
    refine zz_bipush 10 X.1 (v := nI 32) dJ13_numberOfTrailingZeros_95d88_10 rfl ?_
    refine zz_lushr 12 X.1 (v := ush x0 32) dJ13_numberOfTrailingZeros_95d88_12 rfl ?_
    refine zz_l2i 13 X.1 (v := ((ush x0 32).toInt32)) dJ13_numberOfTrailingZeros_95d88_13 rfl ?_
    refine zz_callS0i 14 ⟨X.1.1, X.1.2, hml, hown, hts⟩ (fun q h => Or.inr h) (fun _ _ h _ _ => h) (As := [.int ((ush x0 32).toInt32)]) (kt_J6_numberOfTrailingZeros_0f7a4 l ((ush x0 32).toInt32) (t - 32) (by omega) (h3.1) (h3.2.1)) gJ13_numberOfTrailingZeros_95d88_J6_numberOfTrailingZeros_0f7a4 rfl ⟨rfl, rfl⟩ yd_J6_numberOfTrailingZeros_0f7a4.2 ⟨Nat.le_of_ble_eq_true rfl, Nat.le_of_ble_eq_true rfl⟩ rfl rfl (Nat.le_of_ble_eq_true rfl) ⟨Nat.zero_le _, Nat.zero_le _⟩ dJ13_numberOfTrailingZeros_95d88_14 ?_
    intro r2 hu2
    obtain rfl := hu2
    refine zz_iadd 17 X.1 (v := (nI (32 + (t - 32)))) dJ13_numberOfTrailingZeros_95d88_17 (nI_add _ _) ?_
    refine zz_goto 18 25 X.1 dJ13_numberOfTrailingZeros_95d88_18 (by decide) ?_
    rw [← hQ]
    refine zz_iret 25 X.1 hr rfl hlk () ?_ (fun _ _ _ => trivial) dJ13_numberOfTrailingZeros_95d88_25
    first | rfl | exact congrArg nI (by omega)
abbrev rm_J13_numberOfLeadingZeros_95d88 : Room := { frames := 1, cells := 0, slots := 0, locals := 21 }
theorem yd_J13_numberOfLeadingZeros_95d88 : yJ13_numberOfLeadingZeros_95d88.cls = RJ13 ∧ yJ13_numberOfLeadingZeros_95d88.cls ≠ "java/lang/invoke/MethodHandle" ∧ yJ13_numberOfLeadingZeros_95d88.cls ≠ "java/lang/invoke/VarHandle" ∧ (parseMethodDescriptor yJ13_numberOfLeadingZeros_95d88.desc).map (fun d => d.parameters.length) = some 1 := by decide +kernel
set_option maxHeartbeats 4000000 in
set_option maxRecDepth 100000 in
theorem kt_J13_numberOfLeadingZeros_95d88 (l : Launch) (x0 : Int64) (t : Nat) (ht : t < 64) (h1 : x0.toBitVec.getLsbD t = true) (h2 : ∀ j, t < j → j < 64 → x0.toBitVec.getLsbD j = false) : SMi l yJ13_numberOfLeadingZeros_95d88 wsJ13_numberOfLeadingZeros_95d88 rm_J13_numberOfLeadingZeros_95d88 [.long x0] (fun (r : Int32) => r = (nI (63 - t))) := by
  refine SMi_of (lv := [(0, .long x0)]) (cc := cJ13_numberOfLeadingZeros_95d88) (maxL := 3) (ret := (some .int)) rfl (by decide +kernel) (Nat.le_of_ble_eq_true rfl) rfl ?_
  intro p e s m args below meth c hc hts hown hml hr hlk
  have X : (p.tables.exec = Jvm.exec ∧ c.code = cJ13_numberOfLeadingZeros_95d88) ∧ True := ⟨hc, trivial⟩
  generalize hQ : MQ below _ args s 0 0 _ = Q
  refine zz_lload_n 0 X.1 0 dJ13_numberOfLeadingZeros_95d88_0 rfl ?_
  refine zz_bipush 1 X.1 (v := nI 32) dJ13_numberOfLeadingZeros_95d88_1 rfl ?_
  refine zz_lushr 3 X.1 (v := ush x0 32) dJ13_numberOfLeadingZeros_95d88_3 rfl ?_
  refine zz_l2i 4 X.1 (v := ((ush x0 32).toInt32)) dJ13_numberOfLeadingZeros_95d88_4 rfl ?_
  refine zz_istore_n 5 X.1 (lv' := [(2, .int ((ush x0 32).toInt32)), (0, .long x0)]) dJ13_numberOfLeadingZeros_95d88_5 (by decide) rfl ?_
  refine zz_iload_n 6 X.1 0 dJ13_numberOfLeadingZeros_95d88_6 rfl ?_
  refine zz_if_ne 7 21 X.1 rfl dJ13_numberOfLeadingZeros_95d88_7 (by decide) (fun h7 => ?_) (fun h7 => ?_)
  · skip
    have h32 : 32 ≤ t := Nat.le_of_not_lt (fun z => h7 (lz_lo z h1 h2).2.2)
    have h3 := lz_hi ht h32 h1 h2
    refine zz_iload_n 21 X.1 0 dJ13_numberOfLeadingZeros_95d88_21 rfl ?_
    refine zz_callS0i 22 ⟨X.1.1, X.1.2, hml, hown, hts⟩ (fun q h => Or.inr h) (fun _ _ h _ _ => h) (As := [.int ((ush x0 32).toInt32)]) (kt_J6_numberOfLeadingZeros_0f7a4 l ((ush x0 32).toInt32) (t - 32) (by omega) (h3.1) (h3.2.1)) gJ13_numberOfLeadingZeros_95d88_J6_numberOfLeadingZeros_0f7a4 rfl ⟨rfl, rfl⟩ yd_J6_numberOfLeadingZeros_0f7a4.2 ⟨Nat.le_of_ble_eq_true rfl, Nat.le_of_ble_eq_true rfl⟩ rfl rfl (Nat.le_of_ble_eq_true rfl) ⟨Nat.zero_le _, Nat.zero_le _⟩ dJ13_numberOfLeadingZeros_95d88_22 ?_
    intro r1 hu1
    obtain rfl := hu1
    rw [← hQ]
    refine zz_iret 25 X.1 hr rfl hlk () ?_ (fun _ _ _ => trivial) dJ13_numberOfLeadingZeros_95d88_25
    first | rfl | exact congrArg nI (by omega)
  · skip
    have h32 : t < 32 := Nat.lt_of_not_le (fun z => (lz_hi ht z h1 h2).2.2 h7)
    have h3 := lz_lo h32 h1 h2
    refine zz_bipush 10 X.1 (v := nI 32) dJ13_numberOfLeadingZeros_95d88_10 rfl ?_
    refine zz_lload_n 12 X.1 1 dJ13_numberOfLeadingZeros_95d88_12 rfl ?_
    refine zz_l2i 13 X.1 (v := x0.toInt32) dJ13_numberOfLeadingZeros_95d88_13 rfl ?_
    refine zz_callS0i 14 ⟨X.1.1, X.1.2, hml, hown, hts⟩ (fun q h => Or.inr h) (fun _ _ h _ _ => h) (As := [.int x0.toInt32]) (kt_J6_numberOfLeadingZeros_0f7a4 l x0.toInt32 t (h32) (h3.1) (h3.2.1)) gJ13_numberOfLeadingZeros_95d88_J6_numberOfLeadingZeros_0f7a4 rfl ⟨rfl, rfl⟩ yd_J6_numberOfLeadingZeros_0f7a4.2 ⟨Nat.le_of_ble_eq_true rfl, Nat.le_of_ble_eq_true rfl⟩ rfl rfl (Nat.le_of_ble_eq_true rfl) ⟨Nat.zero_le _, Nat.zero_le _⟩ dJ13_numberOfLeadingZeros_95d88_14 ?_
    intro r2 hu2
    obtain rfl := hu2
    refine zz_iadd 17 X.1 (v := (nI (32 + (31 - t)))) dJ13_numberOfLeadingZeros_95d88_17 (nI_add _ _) ?_
    refine zz_goto 18 25 X.1 dJ13_numberOfLeadingZeros_95d88_18 (by decide) ?_
    rw [← hQ]
    refine zz_iret 25 X.1 hr rfl hlk () ?_ (fun _ _ _ => trivial) dJ13_numberOfLeadingZeros_95d88_25
    first | rfl | exact congrArg nI (by omega)
