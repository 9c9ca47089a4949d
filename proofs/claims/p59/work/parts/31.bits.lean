/-! The words of a set, bit by bit. -/
theorem nB_bit (q : Nat → Bool) (f : Nat) : ∀ (n i : Nat), (nB q f n).testBit i = (decide (i < n) && q (f + i))
  | 0, i => by simp [nB]
  | n + 1, i => by
    have ih := nB_bit q f n
    have hlt := nB_lt q f n
    unfold nB
    rcases zb_tf (q (f + n)) with h | h
    · rw [if_pos h, Nat.add_comm]
      rcases Nat.lt_trichotomy i n with z | z | z
      · rw [Nat.testBit_two_pow_add_gt z, ih]
        simp [z, Nat.lt_succ_of_lt z]
      · subst z
        rw [Nat.testBit_two_pow_add_eq, ih]
        simp [h]
      · rw [Nat.testBit_lt_two_pow (Nat.lt_of_lt_of_le (show 2 ^ n + nB q f n < 2 ^ (n + 1) by rw [Nat.pow_succ]; omega) (Nat.pow_le_pow_right (by decide) (by omega)))]
        simp [show ¬ i < n + 1 by omega]
    · rw [if_neg (by rw [h]; decide), Nat.add_zero, ih]
      rcases Nat.lt_trichotomy i n with z | z | z
      · simp [z, Nat.lt_succ_of_lt z]
      · subst z
        simp [h]
      · simp [show ¬ i < n by omega, show ¬ i < n + 1 by omega]
theorem wd_nat (q : Nat → Bool) (k : Nat) : (wd q k).toBitVec.toNat = nB q (64 * k) 64 := by
  unfold wd lN
  rw [Int64.toBitVec_ofNat', BitVec.toNat_ofNat, Nat.mod_eq_of_lt (nB_lt q (64 * k) 64)]
theorem wd_bit (q : Nat → Bool) (k i : Nat) : (wd q k).toBitVec.getLsbD i = (decide (i < 64) && q (64 * k + i)) := by
  show (wd q k).toBitVec.toNat.testBit i = _
  rw [wd_nat, nB_bit]
theorem wd_ext {x : Int64} {q : Nat → Bool} {k : Nat} (h : ∀ i, i < 64 → x.toBitVec.getLsbD i = q (64 * k + i)) : x = wd q k := by
  rw [← Int64.toBitVec_inj]
  refine BitVec.eq_of_getLsbD_eq (fun i hi => ?_)
  rw [h i hi, wd_bit]
  simp [hi]
theorem wd_cong {p q : Nat → Bool} {k : Nat} (h : ∀ i, i < 64 → p (64 * k + i) = q (64 * k + i)) : wd p k = wd q k := wd_ext (fun i hi => by rw [wd_bit, h i hi]; simp [hi])
theorem wd_or {p q : Nat → Bool} {k : Nat} : wd p k ||| wd q k = wd (fun i => p i || q i) k := wd_ext (fun i hi => by rw [Int64.toBitVec_or, BitVec.getLsbD_or, wd_bit, wd_bit]; simp [hi])
theorem wd_and {p q : Nat → Bool} {k : Nat} : wd p k &&& wd q k = wd (fun i => p i && q i) k := wd_ext (fun i hi => by rw [Int64.toBitVec_and, BitVec.getLsbD_and, wd_bit, wd_bit]; simp [hi])
theorem wd_xor {p q : Nat → Bool} {k : Nat} : wd p k ^^^ wd q k = wd (fun i => p i ^^ q i) k := wd_ext (fun i hi => by rw [Int64.toBitVec_xor, BitVec.getLsbD_xor, wd_bit, wd_bit]; simp [hi])
theorem wd_m1 {k : Nat} : (-1 : Int64) = wd (fun _ => true) k := wd_ext (fun i hi => by
  rw [show (-1 : Int64).toBitVec = BitVec.allOnes 64 from rfl, BitVec.getLsbD_allOnes]
  simp [hi])
theorem wd_not {p : Nat → Bool} {k : Nat} : wd p k ^^^ (-1) = wd (fun i => !p i) k := by
  rw [wd_m1 (k := k), wd_xor]
  exact wd_cong (fun i _ => by simp)
theorem wd_0 {p : Nat → Bool} {k : Nat} (h : ∀ i, i < 64 → p (64 * k + i) = false) : (0 : Int64) = wd p k := wd_ext (fun i hi => by
  rw [h i hi]
  show (0#64).getLsbD i = false
  simp)
theorem wd_eq0 {p : Nat → Bool} {k : Nat} : wd p k = 0 ↔ ∀ i, i < 64 → p (64 * k + i) = false := by
  constructor
  · intro h i hi
    have := wd_bit p k i
    rw [h] at this
    simp [hi] at this
    exact this
  · intro h
    exact (wd_0 h).symm
/-- -1 >>> (64 - (h - l)) << l has the bits from l to h -/
theorem bi_mask {l h k : Nat} {p : Nat → Bool} (h1 : l < h) (h2 : h ≤ 64) (hp : ∀ i, i < 64 → p (64 * k + i) = decide (l ≤ i ∧ i < h)) : ((((-1 : Int64).toUInt64 >>> ((nI (64 - (h - l))).toInt64.toUInt64 &&& Int64.toUInt64 63)).toInt64) <<< ((nI l).toInt64 &&& 63)) = wd p k := by
  refine wd_ext (fun i hi => ?_)
  rw [hp i hi]
  have e1 : ((((-1 : Int64).toUInt64 >>> ((nI (64 - (h - l))).toInt64.toUInt64 &&& Int64.toUInt64 63)).toInt64) <<< ((nI l).toInt64 &&& 63)).toBitVec = (((BitVec.allOnes 64) >>> (64 - (h - l))) <<< l) := by
    have c1 : ∀ j, j < 64 → (((nI j).toInt64.toUInt64 &&& Int64.toUInt64 63).toBitVec % 64).toNat = j := by decide +kernel
    rw [Int64.toBitVec_shiftLeft, BitVec.shiftLeft_eq', bL_cnt l (by omega)]
    congr 1
    show ((-1 : Int64).toUInt64 >>> ((nI (64 - (h - l))).toInt64.toUInt64 &&& Int64.toUInt64 63)).toBitVec = _
    rw [UInt64.toBitVec_shiftRight, BitVec.ushiftRight_eq', c1 _ (by omega)]
    rfl
  rw [e1, BitVec.getLsbD_shiftLeft, BitVec.getLsbD_ushiftRight, BitVec.getLsbD_allOnes]
  by_cases a : l ≤ i
  · by_cases b : i < h
    · simp [a, b, hi]; omega
    · simp [a, b, hi]; omega
  · simp [a]
section ZM
variable {p : Program} {l : Launch} {e : Env} {R : Room} {s : State} {m : MethodId} {args : Array Value} {below : List Frame} {meth : Method} {c : Code} {cells slots : Nat} {Q : State → Prop} {A : Nat → Prop} {P : Heap → Prop} {n : Nat} {lv lv' : List (Nat × Value)} {st : List Value} {cc : ByteArray}
theorem zz_mmax (pc : Nat) (hc : p.tables.exec = Jvm.exec ∧ c.code = cc) (hml : c.maxLocals = n) {own : String} {index : Nat} (hown : s.vm.findClass own = some m.cls) (hlink : (Cond.methodLink own index Lib.Math.max.name).before args s = true) (hstat : (Cond.static Lib.Math.max.name).before args s = true) (hini : (Cond.initialized "java/lang/Math").before args s = true) (hcode : (Cond.code Lib.Math.max.name Lib.Math.max.code 2 (some .int)).before args s = true) (hf : 1 ≤ R.frames) (hlo : (st.map fun v => v.category).sum + 13 ≤ R.locals) (h1 : cells ≤ R.cells) (h2 : slots ≤ R.slots) {x y v : Int32} (hd : decode cc pc = .ok (.invokestatic index, 3)) (hv : (if x < y then y else x) = v) (k : ZZ p l e R s m args below meth c cells slots Q A P n lv (.int v :: st) (pc + 3)) : ZZ p l e R s m args below meth c cells slots Q A P n lv (.int y :: .int x :: st) pc := fun H locs ls hP hS hl => va_mmax hc.1 hc.2 (hml.trans hl.1.symm) hown hlink hstat hini hcode hf hlo h1 h2 hd (by rw [hv]; exact k H locs ls hP hS hl)
theorem zz_mmin (pc : Nat) (hc : p.tables.exec = Jvm.exec ∧ c.code = cc) (hml : c.maxLocals = n) {own : String} {index : Nat} (hown : s.vm.findClass own = some m.cls) (hlink : (Cond.methodLink own index Lib.Math.min.name).before args s = true) (hstat : (Cond.static Lib.Math.min.name).before args s = true) (hini : (Cond.initialized "java/lang/Math").before args s = true) (hcode : (Cond.code Lib.Math.min.name Lib.Math.min.code 2 (some .int)).before args s = true) (hf : 1 ≤ R.frames) (hlo : (st.map fun v => v.category).sum + 13 ≤ R.locals) (h1 : cells ≤ R.cells) (h2 : slots ≤ R.slots) {x y v : Int32} (hd : decode cc pc = .ok (.invokestatic index, 3)) (hv : (if y < x then y else x) = v) (k : ZZ p l e R s m args below meth c cells slots Q A P n lv (.int v :: st) (pc + 3)) : ZZ p l e R s m args below meth c cells slots Q A P n lv (.int y :: .int x :: st) pc := fun H locs ls hP hS hl => va_mmin hc.1 hc.2 (hml.trans hl.1.symm) hown hlink hstat hini hcode hf hlo h1 h2 hd (by rw [hv]; exact k H locs ls hP hS hl)
end ZM
theorem zi_max {x y : Int32} {i j : Int} (hx : x.toInt = i) (hy : y.toInt = j) : (if x < y then y else x).toInt = max i j := by
  by_cases h : x < y
  · rw [if_pos h, hy]
    have := Int32.lt_iff_toInt_lt.mp h
    omega
  · rw [if_neg h, hx]
    have : ¬ x.toInt < y.toInt := fun q => h (Int32.lt_iff_toInt_lt.mpr q)
    omega
theorem zi_min {x y : Int32} {i j : Int} (hx : x.toInt = i) (hy : y.toInt = j) : (if y < x then y else x).toInt = min i j := by
  by_cases h : y < x
  · rw [if_pos h, hy]
    have := Int32.lt_iff_toInt_lt.mp h
    omega
  · rw [if_neg h, hx]
    have : ¬ y.toInt < x.toInt := fun q => h (Int32.lt_iff_toInt_lt.mpr q)
    omega
