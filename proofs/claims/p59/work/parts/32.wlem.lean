/-! One word of a set written anew; what the class's calls on a set make of its words. -/
def pI (f t : Nat) : Nat → Bool := fun i => decide (f ≤ i ∧ i < t)
/-- word k of the set s told by p -/
def vS (hs : Nat → Bool) (s k : Nat) (p : Nat → Bool) : Nat → Bool := sS hs s (fun i => if 64 * k ≤ i ∧ i < 64 * k + 64 then p i else hM hs s i)
theorem vS_W {hs : Nat → Bool} {s0 k0 : Nat} {p : Nat → Bool} {x : Int64} (hx : x = wd p k0) : ∀ i, i < 8 → ∀ k, k < 16 → va_up (WH hs) s0 (vp_updL (WH hs s0) k0 x) i k = WH (vS hs s0 k0 p) i k := by
  intro i hi k hk
  unfold va_up
  by_cases h : i = s0
  · rw [if_pos h, h]
    unfold vp_updL
    by_cases h2 : k = k0
    · rw [if_pos h2, hx, h2]
      refine (wd_cong (fun j hj => ?_)).symm
      unfold vS
      rw [hM_sS (by omega), if_pos (by omega)]
    · rw [if_neg h2]
      refine (wd_cong (fun j hj => ?_)).symm
      unfold vS
      rw [hM_sS (by omega), if_neg (by omega)]
  · rw [if_neg h]
    refine (wd_cong (fun j hj => ?_)).symm
    unfold vS
    rw [hM_sSo h (by omega)]
theorem vS_F {hs : Nat → Bool} {s k : Nat} {p p' : Nat → Bool} (hk : k < 16) (hp : ∀ i, 64 * k ≤ i → i < 64 * k + 64 → p' i = p i) : vS (sF hs s p (64 * k)) s k p' = sF hs s p (64 * (k + 1)) := by
  funext j
  unfold vS sS
  show (if 1024 * s ≤ j ∧ j < 1024 * s + 1024 then _ else sF hs s p (64 * k) j) = _
  by_cases h : 1024 * s ≤ j ∧ j < 1024 * s + 1024
  · rw [if_pos h]
    dsimp only
    by_cases h2 : 64 * k ≤ j - 1024 * s ∧ j - 1024 * s < 64 * k + 64
    · rw [if_pos h2, hp _ h2.1 h2.2]
      unfold sF
      rw [if_pos (by omega)]
    · rw [if_neg h2]
      unfold hM
      rw [show 1024 * s + (j - 1024 * s) = j by omega]
      unfold sF
      by_cases h3 : 1024 * s ≤ j ∧ j < 1024 * s + 64 * k
      · rw [if_pos h3, if_pos (by omega)]
      · rw [if_neg h3, if_neg (by omega)]
  · rw [if_neg h]
    unfold sF
    rw [if_neg (by omega), if_neg (by omega)]
theorem vS_F2 {hs hs1 : Nat → Bool} {s k : Nat} {p p' : Nat → Bool} (hh : hs1 = sF hs s p (64 * k)) (hk : k < 16) (hp : ∀ i, 64 * k ≤ i → i < 64 * k + 64 → p' i = p i) : vS hs1 s k p' = sF hs s p (64 * (k + 1)) := by rw [hh]; exact vS_F hk hp
theorem vS_1 {hs : Nat → Bool} {s i : Nat} {b : Bool} (hi : i < 1024) : vS hs s (i / 64) (p1 (hM hs s) i b) = sS hs s (p1 (hM hs s) i b) := by
  refine sS_cong (fun j hj => ?_)
  by_cases h : 64 * (i / 64) ≤ j ∧ j < 64 * (i / 64) + 64
  · rw [if_pos h]
  · rw [if_neg h]
    unfold p1
    rw [if_neg (by omega)]
/-- word k of the row hs1, filled up to 64 k or less -/
theorem sF_W {hs hs1 : Nat → Bool} {s k n : Nat} {p : Nat → Bool} (hh : hs1 = sF hs s p n) (hn : n ≤ 64 * k) : WH hs1 s k = wd (hM hs s) k := by
  rw [hh]
  exact wd_cong (fun i hi => sF_rd (by omega))
theorem sF_Wo {hs hs1 : Nat → Bool} {s o k n : Nat} {p : Nat → Bool} (hh : hs1 = sF hs s p n) (hn : n ≤ 64 * k) (hk : k < 16) : WH hs1 o k = wd (hM hs o) k := by
  rw [hh]
  refine wd_cong (fun i hi => ?_)
  exact sF_rdo (by omega) (by omega) (Or.inr (by omega))
/-- bit by bit: the numbers from b on as a word; none below 0 or above 1023 -/
def qz (q : Nat → Bool) (b : Int) : Nat → Bool := fun i => decide (0 ≤ b + (i : Int) ∧ b + (i : Int) < 1024) && q (b + (i : Int)).toNat
def hz (q : Nat → Bool) (b : Int) : Bool := decide (0 ≤ b ∧ b < 1024) && q b.toNat
theorem hz_N {q : Nat → Bool} {i : Nat} : hz q (i : Int) = (decide (i < 1024) && q i) := by
  unfold hz
  rw [Int.toNat_natCast]
  rw [show decide (0 ≤ (i : Int) ∧ (i : Int) < 1024) = decide (i < 1024) from decide_eq_decide.mpr (by omega)]
theorem bL_1' (x : Int64) : x &&& 1 = 0 ↔ x.toBitVec.getLsbD 0 = false := by
  have h1 := bL_1 x
  constructor
  · intro h
    rcases zb_tf (x.toBitVec.getLsbD 0) with z | z
    · rw [h1.mpr z] at h
      exact absurd h (by decide)
    · exact z
  · intro h
    have e : (x &&& 1).toBitVec = 0#64 := by
      refine BitVec.eq_of_getLsbD_eq (fun i hi => ?_)
      show (x.toBitVec &&& 1#64).getLsbD i = _
      rcases Nat.eq_zero_or_pos i with z | z
      · subst z
        rw [BitVec.getLsbD_and, h]
        rfl
      · simp [BitVec.getLsbD_one, Nat.ne_of_gt z]
    rw [← Int64.toBitVec_inj]
    exact e
theorem bu_cnt : ∀ j, j < 64 → (((nI j).toInt64.toUInt64 &&& Int64.toUInt64 63).toBitVec % 64).toNat = j := by decide +kernel
theorem bu_bit (x : Int64) {j : Nat} (hj : j < 64) (i : Nat) : ((x.toUInt64 >>> ((nI j).toInt64.toUInt64 &&& Int64.toUInt64 63)).toInt64).toBitVec.getLsbD i = x.toBitVec.getLsbD (j + i) := by
  show (x.toUInt64 >>> ((nI j).toInt64.toUInt64 &&& Int64.toUInt64 63)).toBitVec.getLsbD i = _
  rw [UInt64.toBitVec_shiftRight, BitVec.ushiftRight_eq', bu_cnt j hj, BitVec.getLsbD_ushiftRight]
  rfl
theorem bs_bit (x : Int64) {j : Nat} (hj : j < 64) (i : Nat) : (x <<< ((nI j).toInt64 &&& 63)).toBitVec.getLsbD i = (decide (i < 64) && !decide (i < j) && x.toBitVec.getLsbD (i - j)) := by
  rw [Int64.toBitVec_shiftLeft, BitVec.shiftLeft_eq', bL_cnt j hj, BitVec.getLsbD_shiftLeft]
theorem wz_word {q : Nat → Bool} {k : Nat} (hk : k < 16) : wd q k = wd (qz q (64 * (k : Int))) 0 := wd_ext (fun i hi => by
  rw [wd_bit]
  unfold qz
  rw [show (64 * (k : Int) + ((64 * 0 + i : Nat) : Int)) = ((64 * k + i : Nat) : Int) by omega, Int.toNat_natCast]
  simp [hi]
  omega)
theorem wz_out {q : Nat → Bool} {a : Int} (h : ¬ (0 ≤ a ∧ a < 16)) : (0 : Int64) = wd (qz q (64 * a)) 0 := wd_0 (fun i hi => by
  unfold qz
  rw [decide_eq_false (by omega)]
  rfl)
theorem wz_from {q : Nat → Bool} {b : Int} {r : Nat} (hr : (r : Int) = b % 64) (h0 : 0 < r) : ((wd (qz q (64 * (b / 64))) 0).toUInt64 >>> ((nI r).toInt64.toUInt64 &&& Int64.toUInt64 63)).toInt64 ||| ((wd (qz q (64 * (b / 64 + 1))) 0) <<< ((nI (64 - r)).toInt64 &&& 63)) = wd (qz q b) 0 := wd_ext (fun i hi => by
  rw [Int64.toBitVec_or, BitVec.getLsbD_or, bu_bit _ (by omega), bs_bit _ (by omega), wd_bit, wd_bit]
  unfold qz
  by_cases h : r + i < 64
  · rw [show (64 * (b / 64) + ((64 * 0 + (r + i) : Nat) : Int)) = b + ((64 * 0 + i : Nat) : Int) by omega]
    simp [h, show i < 64 - r by omega]
  · rw [show (64 * (b / 64 + 1) + ((64 * 0 + (i - (64 - r)) : Nat) : Int)) = b + ((64 * 0 + i : Nat) : Int) by omega]
    simp [h, hi, show ¬ i < 64 - r by omega, show i - (64 - r) < 64 by omega])
theorem wz_holds {q : Nat → Bool} {b : Int} {r : Nat} (hr : (r : Int) = b % 64) : (((wd (qz q (64 * (b / 64))) 0).toUInt64 >>> ((nI r).toInt64.toUInt64 &&& Int64.toUInt64 63)).toInt64 &&& 1) = 0 ↔ hz q b = false := by
  rw [bL_1', bu_bit _ (by omega), wd_bit]
  unfold qz hz
  rw [show (64 * (b / 64) + ((64 * 0 + (r + 0) : Nat) : Int)) = b by omega]
  simp [show r < 64 by omega]
theorem zi_subN {a b : Nat} (ha : a < 2 ^ 31) (hb : b < 2 ^ 31) : (nI a - nI b).toInt = (a : Int) - (b : Int) := by
  rw [zi_sub (by rw [nI_toInt ha, nI_toInt hb]; omega) (by rw [nI_toInt ha, nI_toInt hb]; omega), nI_toInt ha, nI_toInt hb]
theorem zi_shr6 {x : Int32} {b : Int} (h : x.toInt = b) : (x >>> (nI 6 &&& 31)).toInt = b / 64 := by
  rw [pk_shr x (nI 6) 6 (by decide) |> fun e => (show (x >>> (nI 6 &&& 31)).toInt = x.toInt >>> 6 from by
    have e2 : (x >>> (nI 6 &&& 31)).toBitVec = x.toBitVec.sshiftRight 6 := by
      rw [Int32.toBitVec_shiftRight, BitVec.sshiftRight', bN_cnt 6 (by omega)]
    show (x >>> (nI 6 &&& 31)).toBitVec.toInt = _
    rw [e2, BitVec.toInt_sshiftRight]
    rfl), h, Int.shiftRight_eq_div_pow]
  rfl
theorem zi_and63 {x : Int32} {b : Int} (h : x.toInt = b) : x &&& nI 63 = nI (b % 64).toNat := by
  rw [pk_and x 6 (by decide)]
  congr 1
  have e : x.toInt = x.toBitVec.toInt := rfl
  rw [← h, e, BitVec.toInt_eq_toNat_bmod]
  have := x.toBitVec.isLt
  unfold Int.bmod
  dsimp only
  split <;> omega
