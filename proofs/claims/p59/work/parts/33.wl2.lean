/-! Words of sets: what the class's loops over the words make. -/
theorem zn_shr6 {i : Nat} (h : i < 2 ^ 31) : nI i >>> (nI 6 &&& 31) = nI (i / 64) := pk_shrN h (nI 6 &&& 31) 6 (by decide)
theorem zn_shr3 {i : Nat} (h : i < 2 ^ 31) : nI i >>> (nI 3 &&& 31) = nI (i / 8) := pk_shrN h (nI 3 &&& 31) 3 (by decide)
theorem zn_and63 {i : Nat} (h : i < 2 ^ 31) : nI i &&& nI 63 = nI (i % 64) := pk_andN (by omega) 6 (by decide)
theorem zn_and7 {i : Nat} (h : i < 2 ^ 31) : nI i &&& nI 7 = nI (i % 8) := pk_andN (by omega) 3 (by decide)
theorem zl_1 {m : Nat} : (1 : Int64).toBitVec.getLsbD m = decide (m = 0) := by
  show (1#64).getLsbD m = _
  rcases Nat.eq_zero_or_pos m with z | z
  · subst z; rfl
  · simp [BitVec.getLsbD_one, Nat.ne_of_gt z]
theorem zl_m1 {m : Nat} : (-1 : Int64).toBitVec.getLsbD m = decide (m < 64) := by
  rw [show (-1 : Int64).toBitVec = BitVec.allOnes 64 from rfl, BitVec.getLsbD_allOnes]
theorem wd_or1 {q : Nat → Bool} {i : Nat} : wd q (i / 64) ||| ((1 : Int64) <<< ((nI (i % 64)).toInt64 &&& 63)) = wd (p1 q i true) (i / 64) := wd_ext (fun j hj => by
  rw [Int64.toBitVec_or, BitVec.getLsbD_or, wd_bit, bs_bit _ (Nat.mod_lt _ (by decide)), zl_1]
  unfold p1
  by_cases h : 64 * (i / 64) + j = i
  · rw [if_pos h]
    simp [hj, show ¬ j < i % 64 by omega, show j - i % 64 = 0 by omega]
  · rw [if_neg h]
    by_cases h2 : j < i % 64
    · simp [hj, h2]
    · simp [hj, show ¬ j - i % 64 = 0 by omega])
theorem wd_and1 {q : Nat → Bool} {i : Nat} : wd q (i / 64) &&& (((1 : Int64) <<< ((nI (i % 64)).toInt64 &&& 63)) ^^^ (-1)) = wd (p1 q i false) (i / 64) := wd_ext (fun j hj => by
  rw [Int64.toBitVec_and, BitVec.getLsbD_and, Int64.toBitVec_xor, BitVec.getLsbD_xor, wd_bit, bs_bit _ (Nat.mod_lt _ (by decide)), zl_1, zl_m1]
  unfold p1
  by_cases h : 64 * (i / 64) + j = i
  · rw [if_pos h]
    simp [hj, show ¬ j < i % 64 by omega, show j - i % 64 = 0 by omega]
  · rw [if_neg h]
    by_cases h2 : j < i % 64
    · simp [hj, h2]
    · simp [hj, show ¬ j - i % 64 = 0 by omega])
theorem wd_andn {p q : Nat → Bool} {k : Nat} : wd p k &&& (wd q k ^^^ (-1)) = wd (fun i => p i && !q i) k := by
  rw [wd_not, wd_and]
section LP
variable {hs hs1 : Nat → Bool} {s o f t k n : Nat} {p : Nat → Bool}
theorem sF_hM (hh : hs1 = sF hs s p n) {i : Nat} (h : n ≤ i) : hM hs1 s i = hM hs s i := by
  rw [hh]
  exact sF_rd h
theorem sF_hMo (hh : hs1 = sF hs s p n) (hn : n ≤ 1024) {i : Nat} (h : n ≤ i) (hi : i < 1024) : hM hs1 o i = hM hs o i := by
  rw [hh]
  exact sF_rdo hi hn (Or.inr h)
theorem st_inc (hh : hs1 = sF hs s (pR (hM hs s) f t true) (64 * k)) (hk : k < 16) : vS hs1 s k (fun i => hM hs1 s i || pI f t i) = sF hs s (pR (hM hs s) f t true) (64 * (k + 1)) := vS_F2 hh hk (fun i h1 h2 => by
  rw [sF_hM hh h1]
  unfold pR pI
  by_cases h : f ≤ i ∧ i < t <;> simp [h])
theorem st_exc (hh : hs1 = sF hs s (pR (hM hs s) f t false) (64 * k)) (hk : k < 16) : vS hs1 s k (fun i => hM hs1 s i && !pI f t i) = sF hs s (pR (hM hs s) f t false) (64 * (k + 1)) := vS_F2 hh hk (fun i h1 h2 => by
  rw [sF_hM hh h1]
  unfold pR pI
  by_cases h : f ≤ i ∧ i < t <;> simp [h])
theorem st_tog (hh : hs1 = sF hs s (pX (hM hs s) f t) (64 * k)) (hk : k < 16) : vS hs1 s k (fun i => hM hs1 s i ^^ pI f t i) = sF hs s (pX (hM hs s) f t) (64 * (k + 1)) := vS_F2 hh hk (fun i h1 h2 => by
  rw [sF_hM hh h1]
  unfold pX pI
  by_cases h : f ≤ i ∧ i < t <;> simp [h])
theorem st_cmb {sg : Nat} (hh : hs1 = sF hs s (fun i => pJ sg (hM hs s i) (hM hs o i)) (64 * k)) (hk : k < 16) : vS hs1 s k (fun i => pJ sg (hM hs1 s i) (hM hs1 o i)) = sF hs s (fun i => pJ sg (hM hs s i) (hM hs o i)) (64 * (k + 1)) := vS_F2 hh hk (fun i h1 h2 => by
  rw [sF_hM hh h1, sF_hMo hh (by omega) h1 (by omega)])
theorem sS_R0 : sS hs s (pR (hM hs s) 0 1024 false) = sS hs s (fun _ => false) := sS_cong (fun i hi => if_pos ⟨Nat.zero_le _, hi⟩)
theorem sS_p1 {i : Nat} {b : Bool} (hi : i < 1024) {x : Nat → Bool} (hx : x = p1 (hM hs s) i b) : vS hs s (i / 64) x = sS hs s (p1 (hM hs s) i b) := by
  rw [hx]
  exact vS_1 hi
theorem p1_none {i : Nat} {b : Bool} (hi : 1024 ≤ i) : hs = sS hs s (p1 (hM hs s) i b) := (p1_same (fun h => absurd h (by omega))).symm
theorem WH_wd {x : Nat → Bool} : WH x s k = wd (hM x s) k := rfl
/-- the part: word k of the set s from the numbers from 64 k + start on -/
theorem st_part {w0 st : Nat} (hst : st = min f 1024) (hft : f ≤ t) (hh : hs1 = sF hs s (pT (hM hs w0) f t) (64 * k)) (hk : k < 16) : vS hs1 s k (fun i => qz (hM hs1 w0) ((64 * k + st : Nat) : Int) (i - 64 * k) && pI 0 (t - f) i) = sF hs s (pT (hM hs w0) f t) (64 * (k + 1)) := vS_F2 hh hk (fun i h1 h2 => by
  unfold qz pI pT
  rw [show ((64 * k + st : Nat) : Int) + ((i - 64 * k : Nat) : Int) = ((st + i : Nat) : Int) by omega, Int.toNat_natCast]
  by_cases h : st + i < 1024
  · have e : st = f := by omega
    rw [e] at h ⊢
    rw [sF_hMo hh (by omega) (show 64 * k ≤ f + i by omega) h]
    have z1 : decide (0 ≤ ((f + i : Nat) : Int) ∧ ((f + i : Nat) : Int) < 1024) = true := decide_eq_true (by omega)
    have z2 : decide (f + i < 1024) = true := decide_eq_true h
    have z3 : decide (0 ≤ i ∧ i < t - f) = decide (f + i < t) := decide_eq_decide.mpr (by omega)
    rw [z1, z2, z3]
    cases decide (f + i < t) <;> simp
  · have z1 : decide (0 ≤ ((st + i : Nat) : Int) ∧ ((st + i : Nat) : Int) < 1024) = false := decide_eq_false (by omega)
    rw [z1, show decide (f + i < 1024) = false from decide_eq_false (by omega)]
    simp)
theorem wd_qzc {q : Nat → Bool} {b : Int} {r : Nat → Bool} : wd (qz q b) 0 &&& wd r k = wd (fun i => qz q b (i - 64 * k) && r i) k := wd_ext (fun i hi => by
  rw [Int64.toBitVec_and, BitVec.getLsbD_and, wd_bit, wd_bit]
  simp [hi])
/-- a set whose numbers from n on are made anew by p -/
def sU (hs : Nat → Bool) (s : Nat) (p : Nat → Bool) (n : Nat) : Nat → Bool := sS hs s (fun i => if n ≤ i then p i else hM hs s i)
theorem sU_top : sU hs s p 1024 = hs := by
  unfold sU sS
  exact sF_same (fun j hj => by rw [if_neg (by omega)]; rfl)
theorem sU_0 : sU hs s p 0 = sS hs s p := sS_cong (fun i hi => if_pos (Nat.zero_le _))
theorem sU_hM (hh : hs1 = sU hs s p n) {i : Nat} (h : i < n) (hi : i < 1024) : hM hs1 s i = hM hs s i := by
  rw [hh]
  unfold sU
  rw [hM_sS hi, if_neg (by omega)]
theorem vS_U {p' : Nat → Bool} (hh : hs1 = sU hs s p (64 * (k + 1))) (hk : k < 16) (hp : ∀ i, 64 * k ≤ i → i < 64 * k + 64 → p' i = p i) : vS hs1 s k p' = sU hs s p (64 * k) := by
  rw [hh]
  unfold vS sU
  rw [sS_sS]
  refine sS_cong (fun i hi => ?_)
  by_cases h : 64 * k ≤ i ∧ i < 64 * k + 64
  · rw [if_pos h, hp i h.1 h.2, if_pos h.1]
  · rw [if_neg h, hM_sS hi]
    by_cases h2 : 64 * (k + 1) ≤ i
    · rw [if_pos h2, if_pos (by omega)]
    · rw [if_neg h2, if_neg (by omega)]
theorem st_up {by0 : Nat} (h0 : 0 < by0) (hb : by0 < 1024) (hh : hs1 = sU hs s (pH (hM hs s) (by0 : Int)) (64 * (k + 1))) (hk : k < 16) : vS hs1 s k (fun i => qz (hM hs1 s) (((64 * k : Nat) : Int) - ((by0 : Nat) : Int)) (i - 64 * k)) = sU hs s (pH (hM hs s) (by0 : Int)) (64 * k) := vS_U hh hk (fun i h1 h2 => by
  unfold qz pH
  rw [show ((64 * k : Nat) : Int) - ((by0 : Nat) : Int) + ((i - 64 * k : Nat) : Int) = (i : Int) - (by0 : Int) by omega]
  by_cases h : 0 ≤ (i : Int) - (by0 : Int)
  · rw [sU_hM hh (i := ((i : Int) - (by0 : Int)).toNat) (by omega) (by omega)]
  · rw [decide_eq_false (fun q => h q.1)]
    rfl)
theorem wd_qz0 {q : Nat → Bool} {b : Int} : wd (qz q b) 0 = wd (fun i => qz q b (i - 64 * k)) k := wd_ext (fun i hi => by
  rw [wd_bit]
  simp [hi])
/-- three words loaded over an empty set -/
theorem st_w3 {a b d : Int64} : vS (vS (vS (sS hs s (fun _ => false)) s 0 (fun i => bL a i)) s 1 (fun i => bL b (i - 64))) s 2 (fun i => bL d (i - 128)) = sS hs s (pW3 a b d) := by
  unfold vS
  rw [sS_sS, sS_sS, sS_sS]
  refine sS_cong (fun i hi => ?_)
  unfold pW3
  by_cases h2 : 64 * 2 ≤ i ∧ i < 64 * 2 + 64
  · rw [if_pos h2, if_neg (by omega), if_neg (by omega), if_pos (by omega)]
  · rw [if_neg h2, hM_sS hi]
    by_cases h1 : 64 * 1 ≤ i ∧ i < 64 * 1 + 64
    · rw [if_pos h1, if_neg (by omega), if_pos (by omega)]
    · rw [if_neg h1, hM_sS hi]
      by_cases h0 : 64 * 0 ≤ i ∧ i < 64 * 0 + 64
      · rw [if_pos h0, if_pos (by omega)]
      · rw [if_neg h0, hM_sS hi, if_neg (by omega), if_neg (by omega), if_neg (by omega)]
theorem wd_bL {a : Int64} : a = wd (fun i => bL a (i - 64 * k)) k := wd_ext (fun i hi => by
  unfold bL
  rw [show 64 * k + i - 64 * k = i by omega])
/-- the least member told by the words -/
theorem wd_low {q : Nat → Bool} (h : wd q k ≠ 0) : ∃ t, t < 64 ∧ (wd q k).toBitVec.getLsbD t = true ∧ (∀ j, j < t → (wd q k).toBitVec.getLsbD j = false) ∧ q (64 * k + t) = true ∧ ∀ j, j < t → q (64 * k + j) = false := by
  have h2 : ∃ t, t < 64 ∧ q (64 * k + t) = true ∧ ∀ j, j < t → q (64 * k + j) = false := by
    refine Classical.byContradiction fun hx => h (wd_eq0.mpr ?_)
    intro i hi
    induction i using Nat.strongRecOn with
    | _ i ih =>
      rcases zb_tf (q (64 * k + i)) with z | z
      · exact absurd ⟨i, hi, z, fun j hj => ih j hj (by omega)⟩ hx
      · exact z
  obtain ⟨t, h3, h4, h5⟩ := h2
  exact ⟨t, h3, by rw [wd_bit, h4]; simp [h3], fun j hj => by rw [wd_bit, h5 j hj]; simp, h4, h5⟩
/-- the greatest one -/
theorem wd_high {q : Nat → Bool} (h : wd q k ≠ 0) : ∃ t, t < 64 ∧ (wd q k).toBitVec.getLsbD t = true ∧ (∀ j, t < j → j < 64 → (wd q k).toBitVec.getLsbD j = false) ∧ q (64 * k + t) = true ∧ ∀ j, t < j → j < 64 → q (64 * k + j) = false := by
  have h2 : ∃ t, t < 64 ∧ q (64 * k + t) = true ∧ ∀ j, t < j → j < 64 → q (64 * k + j) = false := by
    refine Classical.byContradiction fun hx => h (wd_eq0.mpr ?_)
    have key : ∀ d i, 64 - i ≤ d → i < 64 → q (64 * k + i) = false := by
      intro d
      induction d with
      | zero => intro i h1 h2; omega
      | succ d ih =>
        intro i h1 h2
        rcases zb_tf (q (64 * k + i)) with z | z
        · exact absurd ⟨i, h2, z, fun j hj hj2 => ih j (by omega) hj2⟩ hx
        · exact z
    exact fun i hi => key 64 i (by omega) hi
  obtain ⟨t, h3, h4, h5⟩ := h2
  exact ⟨t, h3, by rw [wd_bit, h4]; simp [h3], fun j hj hj2 => by rw [wd_bit, h5 j hj hj2]; simp, h4, h5⟩
end LP
/-! counting by words -/
theorem ct_add (p : Nat → Bool) (a : Nat) : ∀ b, ct p (a + b) = ct p a + ct (fun i => p (a + i)) b
  | 0 => rfl
  | b + 1 => by
    rw [← Nat.add_assoc]
    simp only [ct]
    rw [ct_add p a b]
    omega
theorem ct_word {p : Nat → Bool} {k : Nat} : ct p (64 * k) + ct (fun i => (wd p k).toBitVec.getLsbD i) 64 = ct p (64 * (k + 1)) := by
  rw [show 64 * (k + 1) = 64 * k + 64 by omega, ct_add]
  congr 1
  exact ct_cong (fun i hi => by rw [wd_bit]; simp [hi])
theorem ct_64 {p : Nat → Bool} : ct p 64 ≤ 64 := ct_le p 64
theorem pC_wd {q : Nat → Bool} {f t k : Nat} : wd q k &&& wd (pI f t) k = wd (pC q f t) k := by
  rw [wd_and]
  exact wd_cong (fun i _ => by unfold pC pI; rw [Bool.and_comm])
theorem pCn_wd {q : Nat → Bool} {f t k : Nat} : (wd q k ^^^ (-1)) &&& wd (pI f t) k = wd (pC (fun i => !q i) f t) k := by
  rw [wd_not, pC_wd]
theorem dp_hs {D : va_G} {C : Nat → ClassId} {K : Nat → Nat} {F : Nat → Int32} {G T : Nat → Nat → Int32} {hs hs' : Nat → Bool} (h : hs = hs') (H : Heap) (q : DP D C K F (WH hs) G T H) : DP D C K F (WH hs') G T H := h ▸ q
/-! the sieve -/
def pS (t f : Nat) : Nat → Bool := fun i => decide (2 ≤ i ∧ i < t ∧ ∀ d, d < f → 2 ≤ d → d * d ≤ i → i % d ≠ 0)
def pE (q : Nat → Bool) (f t : Nat) : Nat → Bool := fun i => q i && !decide (i % f = 0 ∧ f * f ≤ i ∧ i < t)
/-- the multiples of f from f on that lie below n times f -/
def pN (q : Nat → Bool) (f n : Nat) : Nat → Bool := fun i => q i && !decide (i % f = 0 ∧ f * f ≤ i ∧ i < n * f)
theorem pN_0 {hs : Nat → Bool} {s f : Nat} : hs = sS hs s (pN (hM hs s) f f) := (sF_same (fun j _ => by
  unfold pN
  rw [decide_eq_false (by omega)]
  simp [hM])).symm
theorem pN_up {hs hs1 : Nat → Bool} {s f n : Nat} (hf : 2 ≤ f) (hn : f ≤ n) (hl : n * f < 1024) (hh : hs1 = sS hs s (pN (hM hs s) f n)) : sS hs1 s (p1 (hM hs1 s) (n * f) false) = sS hs s (pN (hM hs s) f (n + 1)) := by
  rw [hh, sS_sS]
  refine sS_cong (fun i hi => ?_)
  unfold p1
  by_cases h : i = n * f
  · rw [if_pos h]
    unfold pN
    rw [decide_eq_true (show i % f = 0 ∧ f * f ≤ i ∧ i < (n + 1) * f from ⟨by rw [h]; exact Nat.mul_mod_left n f, by rw [h]; exact Nat.mul_le_mul_right f hn, by rw [h, Nat.add_mul]; omega⟩)]
    simp
  · rw [if_neg h, hM_sS hi]
    unfold pN
    congr 2
    refine decide_eq_decide.mpr ⟨fun ⟨a, b, c⟩ => ⟨a, b, by rw [Nat.add_mul]; omega⟩, fun ⟨a, b, c⟩ => ⟨a, b, ?_⟩⟩
    rw [Nat.add_mul, Nat.one_mul] at c
    have e := Nat.div_add_mod i f
    rw [a, Nat.add_zero] at e
    rcases Nat.lt_or_ge i (n * f) with z | z
    · exact z
    · exfalso
      have h1 : i / f < n + 1 := by
        refine Nat.div_lt_of_lt_mul ?_
        rw [Nat.mul_comm, Nat.add_mul]; omega
      have h2 : n ≤ i / f := (Nat.le_div_iff_mul_le (by omega)).mpr z
      have h3 : i / f = n := by omega
      rw [h3, Nat.mul_comm] at e
      exact h e.symm
theorem pN_end {hs : Nat → Bool} {s f n t : Nat} (hf : 2 ≤ f) (hn : f = n ∨ (f < n ∧ (n - 1) * f < t)) (he : t ≤ n * f) : sS hs s (pN (hM hs s) f n) = sS hs s (pE (hM hs s) f t) := by
  refine sS_cong (fun i hi => ?_)
  unfold pN pE
  congr 2
  refine decide_eq_decide.mpr ⟨fun ⟨a, b, c⟩ => ⟨a, b, ?_⟩, fun ⟨a, b, c⟩ => ⟨a, b, Nat.lt_of_lt_of_le c he⟩⟩
  rcases hn with z | ⟨z1, z2⟩
  · rw [← z] at c; omega
  · have e := Nat.div_add_mod i f
    rw [a, Nat.add_zero] at e
    have h1 : i / f < n := Nat.div_lt_of_lt_mul (by rw [Nat.mul_comm]; exact c)
    have h2 : i / f * f ≤ (n - 1) * f := Nat.mul_le_mul_right f (by omega)
    rw [Nat.mul_comm] at e
    omega
theorem pS_0 {hs : Nat → Bool} {s t : Nat} {x : Nat → Bool} (hx : ∀ i, i < 1024 → x i = false) : sS hs s (pR x 2 t true) = sS hs s (pS t 2) := sS_cong (fun i hi => by
  unfold pR pS
  by_cases h : 2 ≤ i ∧ i < t
  · rw [if_pos h]
    exact (decide_eq_true ⟨h.1, h.2, fun d h1 h2 => by omega⟩).symm
  · rw [if_neg h, hx i hi]
    exact (decide_eq_false (fun z => h ⟨z.1, z.2.1⟩)).symm)
theorem dc_andn {P Q R : Prop} {i1 : Decidable P} {i2 : Decidable Q} {i3 : Decidable R} (e : R ↔ (P ∧ ¬ Q)) : (decide P && !decide Q) = decide R := by
  by_cases h1 : P <;> by_cases h2 : Q <;> simp [h1, h2, e]
theorem pS_yes {t f : Nat} (hf : 2 ≤ f) (i : Nat) : pE (pS t f) f t i = pS t (f + 1) i := by
  have e : (2 ≤ i ∧ i < t ∧ ∀ d, d < f + 1 → 2 ≤ d → d * d ≤ i → i % d ≠ 0) ↔ ((2 ≤ i ∧ i < t ∧ ∀ d, d < f → 2 ≤ d → d * d ≤ i → i % d ≠ 0) ∧ ¬ (i % f = 0 ∧ f * f ≤ i ∧ i < t)) := by
    constructor
    · exact fun ⟨a, b, c⟩ => ⟨⟨a, b, fun d h1 => c d (by omega)⟩, fun ⟨z1, z2, _⟩ => c f (by omega) hf z2 z1⟩
    · refine fun ⟨⟨a, b, c⟩, z⟩ => ⟨a, b, fun d h1 h2 h3 h4 => ?_⟩
      rcases Nat.lt_or_ge d f with y | y
      · exact c d y h2 h3 h4
      · have : d = f := by omega
        subst this
        exact z ⟨h4, h3, b⟩
  unfold pE pS
  exact dc_andn e
theorem pS_no {t f : Nat} (hf : 2 ≤ f) (hft : f < t) (h : pS t f f = false) (i : Nat) : pS t f i = pS t (f + 1) i := by
  unfold pS at h ⊢
  have h1 := of_decide_eq_false h
  have h2 : ∃ d, d < f ∧ 2 ≤ d ∧ d * d ≤ f ∧ f % d = 0 := by
    refine Classical.byContradiction fun z => h1 ⟨hf, hft, fun d a b c e => z ⟨d, a, b, c, e⟩⟩
  obtain ⟨d, a, b, c, e⟩ := h2
  refine decide_eq_decide.mpr ⟨fun ⟨y1, y2, y3⟩ => ⟨y1, y2, fun g g1 g2 g3 g4 => ?_⟩, fun ⟨y1, y2, y3⟩ => ⟨y1, y2, fun g g1 => y3 g (by omega)⟩⟩
  rcases Nat.lt_or_ge g f with y | y
  · exact y3 g y g2 g3 g4
  · have : g = f := by omega
    subst this
    have hi : g ≤ i := Nat.le_trans (Nat.le_mul_of_pos_left g (by omega)) g3
    refine y3 d a b (Nat.le_trans c hi) ?_
    exact Nat.mod_eq_zero_of_dvd (Nat.dvd_trans (Nat.dvd_of_mod_eq_zero e) (Nat.dvd_of_mod_eq_zero g4))
theorem pS_end {t f : Nat} (he : t ≤ f * f) (i : Nat) : pS t f i = (decide (i < t) && pr i) := by
  unfold pS pr
  rw [← Bool.decide_and]
  refine decide_eq_decide.mpr ⟨fun ⟨a, b, c⟩ => ⟨b, by omega, fun d h1 h2 h3 => ?_⟩, fun ⟨a, b, c⟩ => ⟨by omega, a, fun d h1 h2 h3 => c d ?_ h2⟩⟩
  · have hd := Nat.div_add_mod i d
    rw [h3, Nat.add_zero] at hd
    rcases Nat.lt_or_ge i (d * d) with z | z
    · have e1 : i / d < d := Nat.div_lt_of_lt_mul z
      generalize i / d = g at hd e1
      have e2 : 2 ≤ g := by
        rcases Nat.lt_or_ge g 2 with y | y
        · exfalso
          have : g = 0 ∨ g = 1 := by omega
          rcases this with y | y <;> rw [y] at hd <;> omega
        · exact y
      have e3 : g * g ≤ i := by
        have := Nat.mul_le_mul_right g (Nat.le_of_lt e1)
        omega
      refine c g ?_ e2 e3 ?_
      · rcases Nat.lt_or_ge g f with y | y
        · exact y
        · exfalso
          have := Nat.mul_le_mul y y
          omega
      · rw [← hd]
        exact Nat.mul_mod_left d g
    · refine c d ?_ h2 z h3
      rcases Nat.lt_or_ge d f with y | y
      · exact y
      · exfalso
        have := Nat.mul_le_mul y y
        omega
  · have : 2 * d ≤ d * d := Nat.mul_le_mul_right d h2
    omega
/-! the tape's bytes -/
def tc (g : Nat → Int32) (n i : Nat) : Nat := if i < n then (g i).toBitVec.toNat else 0
theorem tc_v {g : Nat → Int32} {n i : Nat} (h : i < n) : g i = nI (tc g n i) := by
  unfold tc
  rw [if_pos h]
  refine (Int32.toBitVec_inj).mp ?_
  show _ = (Int32.ofNat _).toBitVec
  rw [Int32.toBitVec_ofNat', BitVec.ofNat_toNat]
  simp
def HB (g : Nat → Int32) (n : Nat) : Prop := ∀ j, j < n → 0 < (g j).toBitVec.toNat ∧ (g j).toBitVec.toNat < 256
theorem tc_lt {g : Nat → Int32} {n i : Nat} (h : HB g n) : tc g n i < 256 := by
  unfold tc
  split
  · exact (h i (by assumption)).2
  · decide
theorem tc_pos {g : Nat → Int32} {n i : Nat} (h : HB g n) (hi : i < n) : 0 < tc g n i := by
  unfold tc
  rw [if_pos hi]
  exact (h i hi).1
def pBy (g : Nat → Int32) (n m : Nat) : Nat → Bool := fun j => decide (j < 8 * m) && (tc g n (j / 8)).testBit (j % 8)
theorem pBy_0 {hs : Nat → Bool} {s : Nat} {g : Nat → Int32} {n : Nat} : sS hs s (fun _ => false) = sS hs s (pBy g n 0) := sS_cong (fun i _ => by unfold pBy; simp)
theorem lN_bit {c j : Nat} (hj : j < 64) : (lN c).toBitVec.getLsbD j = c.testBit j := by
  unfold lN
  rw [Int64.toBitVec_ofNat', BitVec.getLsbD_ofNat]
  simp [hj]
theorem by_wd {hs hs1 : Nat → Bool} {s i n : Nat} {g : Nat → Int32} (hb : HB g n) (hi : i < 128) (hh : hs1 = sS hs s (pBy g n i)) : wd (hM hs1 s) (i / 8) ||| (lN (tc g n i) <<< ((nI (8 * (i % 8))).toInt64 &&& 63)) = wd (pBy g n (i + 1)) (i / 8) := wd_ext (fun j hj => by
  rw [Int64.toBitVec_or, BitVec.getLsbD_or, wd_bit, bs_bit _ (by omega), hh, hM_sS (by omega)]
  have hc := tc_lt (i := i) hb
  unfold pBy
  by_cases h1 : j < 8 * (i % 8)
  · simp [hj, h1, show 64 * (i / 8) + j < 8 * i by omega, show 64 * (i / 8) + j < 8 * (i + 1) by omega]
  · rw [lN_bit (by omega)]
    by_cases h2 : j < 8 * (i % 8) + 8
    · rw [show (64 * (i / 8) + j) / 8 = i by omega, show (64 * (i / 8) + j) % 8 = j - 8 * (i % 8) by omega]
      simp [hj, h1, show ¬ 64 * (i / 8) + j < 8 * i by omega, show 64 * (i / 8) + j < 8 * (i + 1) by omega]
    · rw [Nat.testBit_lt_two_pow (Nat.lt_of_lt_of_le hc (Nat.pow_le_pow_right (n := 2) (by decide) (show 8 ≤ j - 8 * (i % 8) by omega)))]
      simp [hj, h1, show ¬ 64 * (i / 8) + j < 8 * i by omega, show ¬ 64 * (i / 8) + j < 8 * (i + 1) by omega])
theorem by_st {hs hs1 : Nat → Bool} {s i n : Nat} {g : Nat → Int32} (hi : i < 128) (hh : hs1 = sS hs s (pBy g n i)) : vS hs1 s (i / 8) (pBy g n (i + 1)) = sS hs s (pBy g n (i + 1)) := by
  rw [hh]
  unfold vS
  rw [sS_sS]
  refine sS_cong (fun j hj => ?_)
  by_cases h : 64 * (i / 8) ≤ j ∧ j < 64 * (i / 8) + 64
  · rw [if_pos h]
  · rw [if_neg h, hM_sS hj]
    unfold pBy
    congr 1
    exact decide_eq_decide.mpr (by omega)
theorem by_end {hs : Nat → Bool} {s n : Nat} {g : Nat → Int32} (hn : n ≤ 128) : sS hs s (pBy g n 128) = sS hs s (pTp g n) := sS_cong (fun j hj => by
  unfold pBy pTp tc bN
  by_cases h : j / 8 < n
  · rw [if_pos h, decide_eq_true (show j < 8 * 128 by omega), decide_eq_true (show j < 8 * n by omega)]
    rfl
  · rw [if_neg h, decide_eq_false (show ¬ j < 8 * n by omega)]
    simp)
