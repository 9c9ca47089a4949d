/-! The words for what both sides say: counting the numbers below n that p holds of; the members of a set in the reference's row of truths. -/
def ct (p : Nat → Bool) : Nat → Nat
  | 0 => 0
  | n + 1 => ct p n + (if p n then 1 else 0)
def hM (hs : Nat → Bool) (s : Nat) : Nat → Bool := fun i => hs (1024 * s + i)
theorem ct_le (p : Nat → Bool) : ∀ n, ct p n ≤ n
  | 0 => Nat.le_refl 0
  | n + 1 => by
    have h := ct_le p n
    simp only [ct]
    split <;> omega
theorem ct_cong {p q : Nat → Bool} : ∀ {n : Nat}, (∀ i, i < n → p i = q i) → ct p n = ct q n
  | 0, _ => rfl
  | n + 1, h => by
    simp only [ct]
    rw [ct_cong (fun i hi => h i (Nat.lt_succ_of_lt hi)), h n (Nat.lt_succ_self n)]
theorem ct_t {p : Nat → Bool} {n : Nat} (h : p n = true) : ct p n + 1 = ct p (n + 1) := by simp [ct, h]
theorem ct_f {p : Nat → Bool} {n : Nat} (h : p n = false) : ct p n + 0 = ct p (n + 1) := by simp [ct, h]
theorem ct_stop {p : Nat → Bool} {m : Nat} : ∀ {n : Nat}, m ≤ n → (∀ i, m ≤ i → i < n → p i = false) → ct p m = ct p n
  | 0, h, _ => by rw [Nat.le_zero.mp h]
  | n + 1, h, hf => by
    rcases Nat.lt_or_ge m (n + 1) with q | q
    · rw [ct_stop (Nat.le_of_lt_succ q) (fun i h1 h2 => hf i h1 (Nat.lt_succ_of_lt h2))]
      simp [ct, hf n (Nat.le_of_lt_succ q) (Nat.lt_succ_self n)]
    · rw [Nat.le_antisymm h q]
theorem ct_zero {p : Nat → Bool} {n : Nat} (h : ∀ i, i < n → p i = false) : ct p n = 0 := (ct_stop (m := 0) (Nat.zero_le n) (fun i _ h2 => h i h2)).symm
theorem zn_ne0 {n : Nat} (h0 : 0 < n) (h : n < 2 ^ 31) : ¬ nI n = 0 := nI_ne0 h0 h
theorem zn_dec {n : Nat} (k : Nat) (h : k ≤ n) : nI n + Int32.ofInt (-(k : Int)) = nI (n - k) := by
  have h1 : Int32.ofInt (-(k : Int)) = - nI k := by
    rw [Int32.ofInt_neg]
    rfl
  rw [h1, ← pk_sub h, Int32.sub_eq_add_neg]
theorem zb_tf (b : Bool) : b = true ∨ b = false := by cases b <;> simp
/-! a set of the row filled up to i by p, and whole -/
def sF (hs : Nat → Bool) (s : Nat) (p : Nat → Bool) (i : Nat) : Nat → Bool := fun j => if 1024 * s ≤ j ∧ j < 1024 * s + i then p (j - 1024 * s) else hs j
def sS (hs : Nat → Bool) (s : Nat) (p : Nat → Bool) : Nat → Bool := sF hs s p 1024
section SF
variable {hs : Nat → Bool} {s i : Nat} {p : Nat → Bool}
theorem sF_0 : sF hs s p 0 = hs := by
  funext j
  unfold sF
  exact if_neg (by omega)
theorem sF_up {b : Bool} (hb : b = p i) : va_up (sF hs s p i) (1024 * s + i) b = sF hs s p (i + 1) := by
  funext j
  unfold va_up sF
  by_cases h : j = 1024 * s + i
  · rw [if_pos h, if_pos (by omega), hb, show j - 1024 * s = i by omega]
  · rw [if_neg h]
    by_cases h2 : 1024 * s ≤ j ∧ j < 1024 * s + i
    · rw [if_pos h2, if_pos (by omega)]
    · rw [if_neg h2, if_neg (by omega)]
theorem sF_rd {j : Nat} (h : i ≤ j) : sF hs s p i (1024 * s + j) = hs (1024 * s + j) := by
  unfold sF
  exact if_neg (by omega)
theorem sF_rdo {o j : Nat} (hj : j < 1024) (hi : i ≤ 1024) (h : o ≠ s ∨ i ≤ j) : sF hs s p i (1024 * o + j) = hs (1024 * o + j) := by
  unfold sF
  exact if_neg (by omega)
theorem sF_same (h : ∀ j, j < i → p j = hs (1024 * s + j)) : sF hs s p i = hs := by
  funext j
  unfold sF
  by_cases h2 : 1024 * s ≤ j ∧ j < 1024 * s + i
  · rw [if_pos h2, h _ (by omega), show 1024 * s + (j - 1024 * s) = j by omega]
  · rw [if_neg h2]
theorem sF_end (hi : i ≤ 1024) (h : ∀ j, i ≤ j → j < 1024 → p j = hs (1024 * s + j)) : sF hs s p i = sS hs s p := by
  funext j
  unfold sS sF
  by_cases h2 : 1024 * s ≤ j ∧ j < 1024 * s + i
  · rw [if_pos h2, if_pos (by omega)]
  · rw [if_neg h2]
    by_cases h3 : 1024 * s ≤ j ∧ j < 1024 * s + 1024
    · rw [if_pos h3, h _ (by omega) (by omega), show 1024 * s + (j - 1024 * s) = j by omega]
    · rw [if_neg h3]
theorem sF_all : sF hs s p 1024 = sS hs s p := rfl
theorem hM_sS (hi : i < 1024) : hM (sS hs s p) s i = p i := by
  unfold hM sS sF
  rw [if_pos (by omega), show 1024 * s + i - 1024 * s = i by omega]
theorem hM_sSo {o : Nat} (ho : o ≠ s) (hi : i < 1024) : hM (sS hs s p) o i = hM hs o i := by
  unfold hM sS sF
  exact if_neg (by omega)
theorem ct_sS : ct (hM (sS hs s p) s) 1024 = ct p 1024 := ct_cong (fun _ h => hM_sS h)
end SF
theorem sS_cong {hs : Nat → Bool} {s : Nat} {p q : Nat → Bool} (h : ∀ i, i < 1024 → p i = q i) : sS hs s p = sS hs s q := by
  funext j
  unfold sS sF
  by_cases h2 : 1024 * s ≤ j ∧ j < 1024 * s + 1024
  · rw [if_pos h2, if_pos h2, h _ (by omega)]
  · rw [if_neg h2, if_neg h2]
/-! what the calls make of a set -/
def p1 (q : Nat → Bool) (i : Nat) (b : Bool) : Nat → Bool := fun j => if j = i then b else q j
def pR (q : Nat → Bool) (f t : Nat) (b : Bool) : Nat → Bool := fun i => if f ≤ i ∧ i < t then b else q i
def pX (q : Nat → Bool) (f t : Nat) : Nat → Bool := fun i => if f ≤ i ∧ i < t then !q i else q i
def pJ (sg : Nat) (a b : Bool) : Bool := if sg = 38 then a && b else if sg = 124 then a || b else if sg = 126 then a != b else if sg = 33 then a && !b else b
def pT (q : Nat → Bool) (f t : Nat) : Nat → Bool := fun i => decide (f + i < t) && decide (f + i < 1024) && q (f + i)
def pH (q : Nat → Bool) (b : Int) : Nat → Bool := fun i => decide (0 ≤ (i : Int) - b ∧ (i : Int) - b < 1024) && q ((i : Int) - b).toNat
/-- is v a prime number -/
def pr (v : Nat) : Bool := decide (1 < v ∧ ∀ d, d < v → 2 ≤ d → v % d ≠ 0)
/-- the greatest member below n, plus 1; 0 without one -/
def ln (q : Nat → Bool) : Nat → Nat
  | 0 => 0
  | n + 1 => if q n then n + 1 else ln q n
/-- the number that n truths from f on tell -/
def nB (q : Nat → Bool) (f : Nat) : Nat → Nat
  | 0 => 0
  | n + 1 => nB q f n + (if q (f + n) then 2 ^ n else 0)
theorem p1_up {hs : Nat → Bool} {s i : Nat} {b : Bool} (hi : i < 1024) : va_up hs (1024 * s + i) b = sS hs s (p1 (hM hs s) i b) := by
  funext j
  unfold va_up sS sF p1 hM
  by_cases h : j = 1024 * s + i
  · rw [if_pos h, if_pos (by omega), if_pos (by omega)]
  · rw [if_neg h]
    by_cases h2 : 1024 * s ≤ j ∧ j < 1024 * s + 1024
    · rw [if_pos h2, if_neg (by omega), show 1024 * s + (j - 1024 * s) = j by omega]
    · rw [if_neg h2]
theorem ln_le (q : Nat → Bool) : ∀ n, ln q n ≤ n
  | 0 => Nat.le_refl 0
  | n + 1 => by
    unfold ln
    split
    · exact Nat.le_refl _
    · exact Nat.le_succ_of_le (ln_le q n)
theorem ln_down {q : Nat → Bool} {m : Nat} : ∀ {n : Nat}, m ≤ n → (∀ i, m ≤ i → i < n → q i = false) → ln q n = ln q m
  | 0, h, _ => by rw [Nat.le_zero.mp h]
  | n + 1, h, hf => by
    rcases Nat.lt_or_ge m (n + 1) with z | z
    · rw [← ln_down (Nat.le_of_lt_succ z) (fun i h1 h2 => hf i h1 (Nat.lt_succ_of_lt h2))]
      simp [ln, hf n (Nat.le_of_lt_succ z) (Nat.lt_succ_self n)]
    · rw [Nat.le_antisymm h z]
theorem ln_here {q : Nat → Bool} {n : Nat} (h : q n = true) : ln q (n + 1) = n + 1 := by simp [ln, h]
theorem nB_lt (q : Nat → Bool) (f : Nat) : ∀ n, nB q f n < 2 ^ n
  | 0 => Nat.one_pos
  | n + 1 => by
    have h := nB_lt q f n
    have h2 : 2 ^ (n + 1) = 2 ^ n + 2 ^ n := by rw [Nat.pow_succ]; omega
    unfold nB
    split <;> omega
/-! the least member from i on; the least gap -/
def fnd (q : Nat → Bool) : Nat → Nat → Int32
  | 0, _ => -1
  | d + 1, i => if q i then nI i else fnd q d (i + 1)
def nx (q : Nat → Bool) (i : Nat) : Int32 := fnd q (1024 - i) i
theorem fnd_at (q : Nat → Bool) {j : Nat} (hq : q j = true) : ∀ (d i : Nat), i ≤ j → j < i + d → (∀ k, i ≤ k → k < j → q k = false) → fnd q d i = nI j
  | 0, i, h1, h2, _ => by omega
  | d + 1, i, h1, h2, h3 => by
    unfold fnd
    rcases Nat.lt_or_ge i j with z | z
    · rw [if_neg (by rw [h3 i (Nat.le_refl i) z]; decide)]
      exact fnd_at q hq d (i + 1) z (by omega) (fun k a b => h3 k (by omega) b)
    · rw [show i = j by omega, if_pos hq]
theorem fnd_no (q : Nat → Bool) : ∀ (d i : Nat), (∀ k, i ≤ k → k < i + d → q k = false) → fnd q d i = -1
  | 0, _, _ => rfl
  | d + 1, i, h => by
    unfold fnd
    rw [if_neg (by rw [h i (Nat.le_refl i) (by omega)]; decide)]
    exact fnd_no q d (i + 1) (fun k a b => h k (by omega) (by omega))
theorem nx_at {q : Nat → Bool} {i j : Nat} (hq : q j = true) (h1 : i ≤ j) (h2 : j < 1024) (h3 : ∀ k, i ≤ k → k < j → q k = false) : nx q i = nI j := fnd_at q hq _ i h1 (by omega) h3
theorem nx_no {q : Nat → Bool} {i : Nat} (h : ∀ k, i ≤ k → k < 1024 → q k = false) : nx q i = -1 := fnd_no q _ i (fun k a b => h k a (by omega))
def gmr (q : Nat → Bool) : Nat → Nat → Nat
  | 0, i => i
  | d + 1, i => if q i then gmr q d (i + 1) else i
def gm (q : Nat → Bool) (i : Nat) : Nat := gmr q (1024 - i) i
theorem gmr_at (q : Nat → Bool) {j : Nat} : ∀ (d i : Nat), i ≤ j → j ≤ i + d → (j < i + d → q j = false) → (∀ k, i ≤ k → k < j → q k = true) → gmr q d i = j
  | 0, i, h1, h2, _, _ => by unfold gmr; omega
  | d + 1, i, h1, h2, hq, h3 => by
    unfold gmr
    rcases Nat.lt_or_ge i j with z | z
    · rw [if_pos (h3 i (Nat.le_refl i) z)]
      exact gmr_at q d (i + 1) z (by omega) (fun h => hq (by omega)) (fun k a b => h3 k (by omega) b)
    · rw [show i = j by omega, if_neg (by rw [hq (by omega)]; decide)]
theorem gm_at {q : Nat → Bool} {i j : Nat} (h1 : i ≤ j) (h0 : j ≤ 1024 ∨ j = i) (hq : j < 1024 → q j = false) (h3 : ∀ k, i ≤ k → k < j → q k = true) : gm q i = j := by
  unfold gm
  exact gmr_at q _ i h1 (by omega) (fun h => hq (by omega)) h3
theorem sF_up2 {hs hs1 : Nat → Bool} {s i : Nat} {p : Nat → Bool} {b : Bool} (hh : hs1 = sF hs s p i) (hb : b = p i) : va_up hs1 (1024 * s + i) b = sF hs s p (i + 1) := by rw [hh]; exact sF_up hb
theorem p1_same {hs : Nat → Bool} {s i : Nat} {b : Bool} (h : i < 1024 → hs (1024 * s + i) = b) : sS hs s (p1 (hM hs s) i b) = hs := by
  refine sF_same (fun j hj => ?_)
  unfold p1 hM
  by_cases z : j = i
  · rw [if_pos z, z, h (z ▸ hj)]
  · rw [if_neg z]
theorem puts_end {hs : Nat → Bool} {s f t i : Nat} {b : Bool} (hi : i = f ∨ (f ≤ i ∧ i ≤ t ∧ i ≤ 1024)) (he : t ≤ i ∨ 1024 ≤ i) : sF hs s (pR (hM hs s) f t b) i = sS hs s (pR (hM hs s) f t b) := by
  rcases Nat.lt_or_ge 1024 i with z | z
  · have e1 : sF hs s (pR (hM hs s) f t b) i = hs := sF_same (fun j hj => by unfold pR hM; exact if_neg (by omega))
    have e2 : sF hs s (pR (hM hs s) f t b) 1024 = hs := sF_same (fun j hj => by unfold pR hM; exact if_neg (by omega))
    exact e1.trans e2.symm
  · exact sF_end z (fun j h1 h2 => by unfold pR hM; exact if_neg (by omega))
theorem puts_begin {hs : Nat → Bool} {s f t : Nat} {b : Bool} : hs = sF hs s (pR (hM hs s) f t b) f := (sF_same (fun j hj => by unfold pR hM; exact if_neg (by omega))).symm
theorem pR_in {q : Nat → Bool} {f t i : Nat} {b : Bool} (h1 : f ≤ i) (h2 : i < t) : b = pR q f t b i := (if_pos ⟨h1, h2⟩).symm
theorem flip_begin {hs : Nat → Bool} {s f t : Nat} : hs = sF hs s (pX (hM hs s) f t) f := (sF_same (fun j hj => by unfold pX hM; exact if_neg (by omega))).symm
theorem flip_end {hs : Nat → Bool} {s f t i : Nat} (hi : i ≤ 1024) (he : t ≤ i) : sF hs s (pX (hM hs s) f t) i = sS hs s (pX (hM hs s) f t) := sF_end hi (fun j h1 h2 => by unfold pX hM; exact if_neg (by omega))
theorem pX_in {q : Nat → Bool} {f t i : Nat} (h1 : f ≤ i) (h2 : i < t) : pX q f t i = !q i := if_pos ⟨h1, h2⟩
def mF (mv p : Nat → Bool) (i : Nat) : Nat → Bool := fun j => if j < i then p j else mv j
theorem mF_0 {mv p : Nat → Bool} : mF mv p 0 = mv := by
  funext j
  unfold mF
  exact if_neg (by omega)
theorem mF_up2 {mv mv1 p : Nat → Bool} {i : Nat} {b : Bool} (hh : mv1 = mF mv p i) (hb : b = p i) : va_up mv1 i b = mF mv p (i + 1) := by
  rw [hh]
  funext j
  unfold va_up mF
  by_cases h : j = i
  · rw [if_pos h, if_pos (by omega), hb, h]
  · rw [if_neg h]
    by_cases h2 : j < i
    · rw [if_pos h2, if_pos (by omega)]
    · rw [if_neg h2, if_neg (by omega)]
theorem mF_S {hs : Nat → Bool} {s : Nat} {mv p : Nat → Bool} : sS hs s (mF mv p 1024) = sS hs s p := sS_cong (fun i hi => if_pos hi)
theorem ct_mF {mv p : Nat → Bool} : ct (mF mv p 1024) 1024 = ct p 1024 := ct_cong (fun i hi => if_pos hi)
/-! words' and bytes' bits -/
def bL (w : Int64) (i : Nat) : Bool := w.toBitVec.getLsbD i
def bN (x : Int32) (i : Nat) : Bool := x.toBitVec.getLsbD i
theorem bL_cnt : ∀ i, i < 64 → (((nI i).toInt64 &&& 63).toBitVec.smod 64).toNat = i := by decide +kernel
theorem bN_cnt : ∀ i, i < 32 → ((nI i &&& 31).toBitVec.smod 32).toNat = i := by decide +kernel
theorem bL_1 (x : Int64) : (x &&& 1) = 1 ↔ x.toBitVec.getLsbD 0 = true := by
  have e : (x &&& 1) = 1 ↔ (x.toBitVec &&& 1#64) = 1#64 := by
    rw [← Int64.toBitVec_inj]
    rfl
  rw [e]
  constructor
  · intro h
    have := congrArg (fun z => z.getLsbD 0) h
    simpa using this
  · intro h
    refine BitVec.eq_of_getLsbD_eq (fun i hi => ?_)
    rcases Nat.eq_zero_or_pos i with z | z
    · subst z; simp [h]
    · simp [BitVec.getLsbD_one, Nat.ne_of_gt z]
theorem bL_sh {w : Int64} {i : Nat} (hi : i < 64) : ((w >>> ((nI i).toInt64 &&& 63)) &&& 1) = 1 ↔ bL w i = true := by
  rw [bL_1]
  unfold bL
  have e : (w >>> ((nI i).toInt64 &&& 63)).toBitVec = w.toBitVec.sshiftRight i := by
    rw [Int64.toBitVec_shiftRight, BitVec.sshiftRight', bL_cnt i hi]
  rw [e, BitVec.getLsbD_sshiftRight]
  simp [show ¬ (64 ≤ 0) by omega, hi]
theorem bN_1 (x : Int32) : (x &&& nI 1).toInt = 1 ↔ x.toBitVec.getLsbD 0 = true := by
  have e : (x &&& nI 1).toInt = 1 ↔ (x.toBitVec &&& 1#32) = 1#32 := by
    have h1 : (1 : Int) = (nI 1).toInt := rfl
    rw [h1, Int32.toInt_inj, ← Int32.toBitVec_inj]
    rfl
  rw [e]
  constructor
  · intro h
    have := congrArg (fun z => z.getLsbD 0) h
    simpa using this
  · intro h
    refine BitVec.eq_of_getLsbD_eq (fun i hi => ?_)
    rcases Nat.eq_zero_or_pos i with z | z
    · subst z; simp [h]
    · simp [BitVec.getLsbD_one, Nat.ne_of_gt z]
theorem bN_sh {x : Int32} {i : Nat} (hi : i < 32) : ((x >>> (nI i &&& 31)) &&& nI 1).toInt = 1 ↔ bN x i = true := by
  rw [bN_1]
  unfold bN
  have e : (x >>> (nI i &&& 31)).toBitVec = x.toBitVec.sshiftRight i := by
    rw [Int32.toBitVec_shiftRight, BitVec.sshiftRight', bN_cnt i hi]
  rw [e, BitVec.getLsbD_sshiftRight]
  simp [show ¬ (32 ≤ 0) by omega, hi]
def rF (hs : Nat → Bool) (base : Nat) (p : Nat → Bool) (i : Nat) : Nat → Bool := fun j => if base ≤ j ∧ j < base + i then p (j - base) else hs j
theorem rF_0 {hs p : Nat → Bool} {base : Nat} : rF hs base p 0 = hs := by
  funext j
  unfold rF
  exact if_neg (by omega)
theorem rF_up2 {hs hs1 p : Nat → Bool} {base i : Nat} {b : Bool} (hh : hs1 = rF hs base p i) (hb : b = p i) : va_up hs1 (base + i) b = rF hs base p (i + 1) := by
  rw [hh]
  funext j
  unfold va_up rF
  by_cases h : j = base + i
  · rw [if_pos h, if_pos (by omega), hb, show j - base = i by omega]
  · rw [if_neg h]
    by_cases h2 : base ≤ j ∧ j < base + i
    · rw [if_pos h2, if_pos (by omega)]
    · rw [if_neg h2, if_neg (by omega)]
/-- word pl of the set q told by w -/
def pWd (q : Nat → Bool) (pl : Nat) (w : Int64) : Nat → Bool := fun i => if 64 * pl ≤ i ∧ i < 64 * pl + 64 then bL w (i - 64 * pl) else q i
theorem rF_W {hs : Nat → Bool} {s pl : Nat} {w : Int64} (hp : pl < 16) : rF hs (1024 * s + 64 * pl) (bL w) 64 = sS hs s (pWd (hM hs s) pl w) := by
  funext j
  unfold rF sS sF pWd hM
  by_cases h : 1024 * s + 64 * pl ≤ j ∧ j < 1024 * s + 64 * pl + 64
  · rw [if_pos h, if_pos (by omega), if_pos (by omega), show j - (1024 * s + 64 * pl) = j - 1024 * s - 64 * pl by omega]
  · rw [if_neg h]
    by_cases h2 : 1024 * s ≤ j ∧ j < 1024 * s + 1024
    · rw [if_pos h2, if_neg (by omega), show 1024 * s + (j - 1024 * s) = j by omega]
    · rw [if_neg h2]
/-- the members that the first n bytes tell -/
def pTp (tp : Nat → Int32) (n : Nat) : Nat → Bool := fun i => decide (i < 8 * n) && bN (tp (i / 8)) (i % 8)
theorem ln_cong {p q : Nat → Bool} : ∀ {n : Nat}, (∀ i, i < n → p i = q i) → ln p n = ln q n
  | 0, _ => rfl
  | n + 1, h => by
    simp only [ln]
    rw [ln_cong (fun i hi => h i (Nat.lt_succ_of_lt hi)), h n (Nat.lt_succ_self n)]
theorem ln_sS {hs : Nat → Bool} {s : Nat} {p : Nat → Bool} : ln (hM (sS hs s p) s) 1024 = ln p 1024 := ln_cong (fun _ h => hM_sS h)
theorem sS_sS {hs : Nat → Bool} {s : Nat} {p q : Nat → Bool} : sS (sS hs s p) s q = sS hs s q := by
  funext j
  unfold sS sF
  by_cases h2 : 1024 * s ≤ j ∧ j < 1024 * s + 1024
  · rw [if_pos h2, if_pos h2]
  · rw [if_neg h2, if_neg h2, if_neg h2]
theorem pr_f {v d : Nat} (h1 : d < v) (h2 : 2 ≤ d) (h3 : v % d = 0) : pr v = false := by
  unfold pr
  exact decide_eq_false (fun h => h.2 d h1 h2 h3)
/-! ints by their numbers -/
theorem zi_of {x : Int32} {k : Nat} (h : x.toInt = (k : Int)) : x = nI k := by
  have h1 := Int32.toInt_lt x
  rw [← Int32.toInt_inj, h, nI_toInt (by omega)]
theorem zi_ofm {x : Int32} {i : Int} (h : x.toInt = i) (h0 : 0 ≤ i) : ∃ k : Nat, x = nI k ∧ (k : Int) = i ∧ k < 2 ^ 31 := by
  have h1 := Int32.toInt_lt x
  exact ⟨i.toNat, zi_of (by omega), by omega, by omega⟩
theorem zi_dec {x : Int32} (h : 0 ≤ x.toInt) : (x + (-1)).toInt = x.toInt - 1 := by
  have h1 := Int32.toInt_lt x
  rw [Int32.toInt_add, show (-1 : Int32).toInt = -1 from rfl, Int.bmod_eq_of_le (by omega) (by omega)]
  omega
theorem zi_decN {k : Nat} (h : k < 2 ^ 31) : (nI k + (-1)).toInt = (k : Int) - 1 := by
  rw [zi_dec (by rw [nI_toInt h]; omega), nI_toInt h]
theorem zi_sub {x y : Int32} (h1 : -2147483648 ≤ x.toInt - y.toInt) (h2 : x.toInt - y.toInt < 2147483648) : (x - y).toInt = x.toInt - y.toInt := by
  rw [Int32.toInt_sub, Int.bmod_eq_of_le (by omega) (by omega)]
theorem zi_pm {x : Int32} {k : Nat} (hk : k < 2 ^ 31) (h : x.toInt = (k : Int) - 1) : x = nI k - 1 := by
  have h1 := nI_toInt hk
  rw [← Int32.toInt_inj, zi_sub (by rw [h1]; show _ ≤ (k : Int) - 1; omega) (by rw [h1]; show (k : Int) - 1 < _; omega), h1, h]
  rfl
/-! more of what the calls answer -/
def pC (q : Nat → Bool) (f t : Nat) : Nat → Bool := fun i => decide (f ≤ i ∧ i < t) && q i
theorem pC_zero {q : Nat → Bool} {f t n : Nat} (h : n ≤ f) : ct (pC q f t) n = 0 := ct_zero (fun i hi => by unfold pC; simp [show ¬ (f ≤ i ∧ i < t) by omega])
theorem pC_end {q : Nat → Bool} {f t i : Nat} (hi : i = f ∨ (f ≤ i ∧ i ≤ t ∧ i ≤ 1024)) (he : t ≤ i ∨ 1024 ≤ i) : ct (pC q f t) i = ct (pC q f t) 1024 := by
  rcases Nat.lt_or_ge 1024 i with z | z
  · rw [pC_zero (by omega), pC_zero (by omega)]
  · exact ct_stop z (fun k h1 h2 => by unfold pC; simp [show ¬ (f ≤ k ∧ k < t) by omega])
theorem pC_t {q : Nat → Bool} {f t i : Nat} (h1 : f ≤ i) (h2 : i < t) (h : q i = true) : ct (pC q f t) i + 1 = ct (pC q f t) (i + 1) := ct_t (by simp [pC, h1, h2, h])
theorem pC_f {q : Nat → Bool} {f t i : Nat} (h : q i = false) : ct (pC q f t) i + 0 = ct (pC q f t) (i + 1) := ct_f (by simp [pC, h])
theorem told_step {q : Nat → Bool} {f j v b n : Nat} (hv : v * 2 ^ (j + 1) + nB q f (j + 1) = n) (hb : b = if q (f + j) then 1 else 0) : (2 * v + b) * 2 ^ j + nB q f j = n := by
  rw [← hv, Nat.pow_succ, Nat.add_mul, hb]
  have e : 2 * v * 2 ^ j = v * (2 ^ j * 2) := by rw [Nat.mul_comm 2 v, Nat.mul_assoc, Nat.mul_comm 2 (2 ^ j)]
  have e2 : nB q f (j + 1) = nB q f j + (if q (f + j) then 2 ^ j else 0) := rfl
  rw [e, e2]
  generalize v * (2 ^ j * 2) = A
  split
  · rw [Nat.one_mul]; omega
  · rw [Nat.zero_mul]
    omega
def fg (q : Nat → Bool) : Nat → Int64 → Int64
  | 0, h => h
  | k + 1, h => fg q k (h ^^^ (lN (nB q (64 * k) 64) * lN (k + 1)))
def fpr (q : Nat → Bool) : Int32 := (((fg q 16 1234) >>> ((nI 32).toInt64 &&& 63)) ^^^ (fg q 16 1234)).toInt32
def pmv (q : Nat → Bool) (m : Nat) : Int32 := if 1024 < m then nI m - 1 else nI (ln (fun i => !q i) m) - 1
def mA (q : Nat → Bool) (b : Int) : Int32 := nx (fun j => q j && decide ((ct q j : Int) = b)) 0
theorem ct_mono {q : Nat → Bool} {m : Nat} : ∀ {n : Nat}, m ≤ n → ct q m ≤ ct q n
  | 0, h => by rw [Nat.le_zero.mp h]; exact Nat.le_refl _
  | n + 1, h => by
    rcases Nat.lt_or_ge m (n + 1) with z | z
    · exact Nat.le_trans (ct_mono (Nat.le_of_lt_succ z)) (Nat.le_add_right _ _)
    · rw [Nat.le_antisymm h z]; exact Nat.le_refl _
def su (q : Nat → Bool) : Nat → Nat
  | 0 => 0
  | n + 1 => su q n + (if q n then n else 0)
def bg (q : Nat → Bool) (i : Nat) : Bool := q i && (i == 0 || !q (i - 1))
/-- how long a run goes on from i -/
def rr (q : Nat → Bool) : Nat → Nat → Nat
  | 0, _ => 0
  | d + 1, i => if q i then rr q d (i + 1) + 1 else 0
def rl (q : Nat → Bool) (i : Nat) : Nat := rr q (1024 - i) i
theorem rr_at (q : Nat → Bool) : ∀ (d i n : Nat), n ≤ d → (∀ k, k < n → q (i + k) = true) → (n < d → q (i + n) = false) → rr q d i = n
  | 0, i, n, h1, _, _ => by unfold rr; omega
  | d + 1, i, 0, _, _, h3 => by
    unfold rr
    have := h3 (by omega)
    simp at this
    simp [this]
  | d + 1, i, n + 1, h1, h2, h3 => by
    unfold rr
    have e := h2 0 (by omega)
    simp at e
    rw [if_pos e, rr_at q d (i + 1) n (by omega) (fun k hk => by rw [show i + 1 + k = i + (k + 1) by omega]; exact h2 (k + 1) (by omega)) (fun hd => by rw [show i + 1 + n = i + (n + 1) by omega]; exact h3 (by omega))]
theorem rl_at {q : Nat → Bool} {i n : Nat} (h0 : i < 1024) (h1 : ∀ k, k < n → i + k < 1024 ∧ q (i + k) = true) (h2 : i + n < 1024 → q (i + n) = false) : rl q i = n := by
  refine rr_at q _ i n ?_ (fun k hk => (h1 k hk).2) (fun h => h2 (by omega))
  rcases Nat.eq_zero_or_pos n with z | z
  · omega
  · have := (h1 (n - 1) (by omega)).1
    omega
/-- where the first of the longest runs that begin below n begins, and its length -/
def bst (q : Nat → Bool) : Nat → Int32 × Nat
  | 0 => (-1, 0)
  | n + 1 => if (bst q n).2 < (if bg q n then rl q n else 0) then (nI n, if bg q n then rl q n else 0) else bst q n
def pA (q r : Nat → Bool) (x y : Bool) : Nat → Bool := fun i => (q i == x) && (r i == y)
theorem ln_top {q : Nat → Bool} {n : Nat} (h0 : 0 < n) (h : q (n - 1) = true) : ln q n = n := by
  obtain ⟨k, rfl⟩ : ∃ k, n = k + 1 := ⟨n - 1, by omega⟩
  exact ln_here h
/-- the set that three words tell -/
def pW3 (a b c : Int64) : Nat → Bool := fun i => if i < 64 then bL a i else if i < 128 then bL b (i - 64) else if i < 192 then bL c (i - 128) else false
theorem sS_W3 {hs : Nat → Bool} {s : Nat} {a b c : Int64} (q1 q2 q3 : Nat → Bool) (h1 : ∀ i, i < 1024 → q1 i = false) (h2 : ∀ i, i < 1024 → q2 i = pWd q1 0 a i) (h3 : ∀ i, i < 1024 → q3 i = pWd q2 1 b i) : sS hs s (pWd q3 2 c) = sS hs s (pW3 a b c) := by
  refine sS_cong (fun i hi => ?_)
  unfold pWd pW3
  by_cases z2 : 64 * 2 ≤ i ∧ i < 64 * 2 + 64
  · rw [if_pos z2, if_neg (by omega), if_neg (by omega), if_pos (by omega)]
  · rw [if_neg z2, h3 i hi]
    unfold pWd
    by_cases z1 : 64 * 1 ≤ i ∧ i < 64 * 1 + 64
    · rw [if_pos z1, if_neg (by omega), if_pos (by omega)]
    · rw [if_neg z1, h2 i hi]
      unfold pWd
      by_cases z0 : 64 * 0 ≤ i ∧ i < 64 * 0 + 64
      · rw [if_pos z0, if_pos (by omega)]; rfl
      · rw [if_neg z0, h1 i hi, if_neg (by omega), if_neg (by omega), if_neg (by omega)]
theorem ln_lt {q : Nat → Bool} {n : Nat} : ln q n ≤ n := ln_le q n
theorem rl_0 {q : Nat → Bool} {i : Nat} (h : bg q i = false) : (if bg q i then rl q i else 0) = 0 := by rw [h]; rfl
/-! texts: what is written, place by place -/
def w1 (x : (Nat → Int32) × Nat) (c : Nat) : (Nat → Int32) × Nat := (upd x.1 x.2 (nI c), x.2 + 1)
def wD (v u : Nat) (x : (Nat → Int32) × Nat) : (Nat → Int32) × Nat := if u ≤ v ∨ u = 1 then w1 x (48 + v / u % 10) else x
/-- a number in decimals -/
def wN (v : Nat) (x : (Nat → Int32) × Nat) : (Nat → Int32) × Nat := wD v 1 (wD v 10 (wD v 100 (wD v 1000 x)))
def wM (v : Nat) (x : (Nat → Int32) × Nat) : (Nat → Int32) × Nat := wN v (if 1 < x.2 then w1 (w1 x 44) 32 else x)
/-- the members below n -/
def wS (q : Nat → Bool) : Nat → (Nat → Int32) × Nat → (Nat → Int32) × Nat
  | 0, x => x
  | n + 1, x => if q n then wM n (wS q n x) else wS q n x
def wT (q : Nat → Bool) (g : Nat → Int32) : (Nat → Int32) × Nat := w1 (wS q 1024 (w1 (g, 0) 123)) 125
def wB (i : Nat) : Nat := 1 + 3 * i + (i - 10) + (i - 100) + (i - 1000)
def dgs (v : Nat) : Nat := if v < 10 then 1 else if v < 100 then 2 else if v < 1000 then 3 else 4
theorem wN_2 {v : Nat} {x : (Nat → Int32) × Nat} : (wN v x).2 = x.2 + dgs v := by
  unfold wN wD dgs w1
  by_cases h1 : v < 10
  · simp [h1, show ¬ 10 ≤ v by omega, show ¬ 100 ≤ v by omega, show ¬ 1000 ≤ v by omega]
  · by_cases h2 : v < 100
    · simp [h1, h2, show 10 ≤ v by omega, show ¬ 100 ≤ v by omega, show ¬ 1000 ≤ v by omega]
    · by_cases h3 : v < 1000
      · simp [h1, h2, h3, show 10 ≤ v by omega, show 100 ≤ v by omega, show ¬ 1000 ≤ v by omega]
      · simp [h1, h2, h3, show 10 ≤ v by omega, show 100 ≤ v by omega, show 1000 ≤ v by omega]
theorem wM_2 {v : Nat} {x : (Nat → Int32) × Nat} : (wM v x).2 ≤ x.2 + 2 + dgs v := by
  unfold wM
  rw [wN_2]
  split <;> simp [w1] <;> omega
theorem wS_2 {q : Nat → Bool} {g : Nat → Int32} : ∀ n, (wS q n (g, 1)).2 ≤ wB n
  | 0 => Nat.le_refl 1
  | n + 1 => by
    have ih := wS_2 (q := q) (g := g) n
    have hb : wB n + 2 + dgs n = wB (n + 1) := by
      unfold wB dgs
      split
      · omega
      · split
        · omega
        · split <;> omega
    unfold wS
    split
    · have := wM_2 (v := n) (x := wS q n (g, 1))
      omega
    · omega
theorem wS_1 {q : Nat → Bool} {g : Nat → Int32} : ∀ n, 1 ≤ (wS q n (g, 1)).2
  | 0 => Nat.le_refl 1
  | n + 1 => by
    have ih := wS_1 (q := q) (g := g) n
    unfold wS
    split
    · unfold wM
      rw [wN_2]
      split <;> simp [w1] <;> omega
    · exact ih
/-! the tape -/
/-- byte k of a number, its lowest is byte 0 -/
def by8 (v : Int32) (k : Nat) : Nat := v.toBitVec.toNat / 2 ^ (8 * k) % 256
def nb (v : Int32) : Nat := ct (fun k => by8 v k != 0) 4
/-- a byte is put down, if it isn't 0 -/
def t1 (b : Nat) (x : (Nat → Int32) × Nat) : (Nat → Int32) × Nat := if b = 0 then x else (upd x.1 x.2 (nI b), x.2 + 1)
def t4 (v : Int32) (x : (Nat → Int32) × Nat) : (Nat → Int32) × Nat := t1 (by8 v 0) (t1 (by8 v 1) (t1 (by8 v 2) (t1 (by8 v 3) x)))
theorem t1_2 {b : Nat} {x : (Nat → Int32) × Nat} : (t1 b x).2 = x.2 + (if b != 0 then 1 else 0) := by
  unfold t1
  by_cases h : b = 0 <;> simp [h]
theorem t4_2 {v : Int32} {x : (Nat → Int32) × Nat} : (t4 v x).2 = x.2 + nb v := by
  unfold t4 nb
  simp only [t1_2, ct]
  omega
theorem by8_lt {v : Int32} {k : Nat} : by8 v k < 256 := Nat.mod_lt _ (by decide)
theorem by8_sh (v : Int32) {k : Nat} (hk : k < 4) : (v >>> (nI (8 * k) &&& 31)) &&& nI 255 = nI (by8 v k) := by
  rw [pk_and _ 8 (by decide)]
  unfold by8
  congr 1
  have e : (v >>> (nI (8 * k) &&& 31)).toBitVec = v.toBitVec.sshiftRight (8 * k) := by
    rw [Int32.toBitVec_shiftRight, BitVec.sshiftRight', bN_cnt (8 * k) (by omega)]
  rw [e]
  refine Nat.eq_of_testBit_eq (fun i => ?_)
  rw [show (256 : Nat) = 2 ^ 8 from rfl, Nat.testBit_mod_two_pow, Nat.testBit_mod_two_pow, Nat.testBit_div_two_pow]
  by_cases hi : i < 8
  · have h1 : (v.toBitVec.sshiftRight (8 * k)).toNat.testBit i = (v.toBitVec.sshiftRight (8 * k)).getLsbD i := rfl
    have h2 : v.toBitVec.toNat.testBit (i + 8 * k) = v.toBitVec.getLsbD (i + 8 * k) := rfl
    rw [h1, h2, BitVec.getLsbD_sshiftRight, Nat.add_comm i]
    simp [hi, show ¬ 32 ≤ i by omega, show 8 * k + i < 32 by omega]
  · simp [hi]
theorem by8_ush (v : Int32) {k : Nat} (hk : k < 4) : (v.toUInt32 >>> ((nI (8 * k)).toUInt32 &&& Int32.toUInt32 31)).toInt32 &&& nI 255 = nI (by8 v k) := by
  rw [pk_and _ 8 (by decide)]
  unfold by8
  congr 1
  rw [pk_ushr v (nI (8 * k)) (8 * k) (by
    have : ∀ j, j < 4 → (((nI (8 * j)).toUInt32 &&& Int32.toUInt32 31).toBitVec % 32).toNat = 8 * j := by decide +kernel
    exact this k hk)]
theorem ct_split (p q : Nat → Bool) : ∀ n, ct (fun i => p i && q i) n + ct (fun i => p i && !q i) n = ct p n
  | 0 => rfl
  | n + 1 => by
    have ih := ct_split p q n
    simp only [ct]
    rcases zb_tf (p n) with h | h <;> rcases zb_tf (q n) with h2 | h2 <;> simp [h, h2] <;> omega
theorem ct_not (p : Nat → Bool) : ∀ n, ct (fun i => !p i) n + ct p n = n
  | 0 => rfl
  | n + 1 => by
    have ih := ct_not p n
    simp only [ct]
    rcases zb_tf (p n) with h | h <;> simp [h] <;> omega
theorem pA_law (q r : Nat → Bool) : ∀ n, ct q n + ct r n + ct (pA q r false false) n = ct (pA q r true true) n + n ∧ ct (pA q r true true) n ≤ ct q n ∧ ct (pA q r false false) n ≤ n
  | 0 => by simp [ct]
  | n + 1 => by
    have ih := pA_law q r n
    simp only [ct]
    have e1 : pA q r true true n = (q n && r n) := by cases hq : q n <;> cases hr : r n <;> simp [pA, hq, hr]
    have e2 : pA q r false false n = (!q n && !r n) := by cases hq : q n <;> cases hr : r n <;> simp [pA, hq, hr]
    rw [e1, e2]
    generalize ct (pA q r true true) n = A at ih ⊢
    generalize ct (pA q r false false) n = B at ih ⊢
    generalize ct q n = C at ih ⊢
    generalize ct r n = D at ih ⊢
    rcases zb_tf (q n) with h | h <;> rcases zb_tf (r n) with h2 | h2 <;> simp [h, h2] <;> omega
theorem zi_add {x y : Int32} {i j : Int} (hx : x.toInt = i) (hy : y.toInt = j) (h1 : -2147483648 ≤ i + j) (h2 : i + j < 2147483648) : (x + y).toInt = i + j := by
  rw [Int32.toInt_add, hx, hy, Int.bmod_eq_of_le (by omega) (by omega)]
/-- the first i bytes of a number, from the highest on -/
def tks (v : Int32) : Nat → (Nat → Int32) × Nat → (Nat → Int32) × Nat
  | 0, x => x
  | i + 1, x => t1 (by8 v (3 - i)) (tks v i x)
theorem tks_4 {v : Int32} {x : (Nat → Int32) × Nat} : tks v 4 x = t4 v x := rfl
theorem nb_eq (v : Int32) : nb v = 0 + (if by8 v 0 != 0 then 1 else 0) + (if by8 v 1 != 0 then 1 else 0) + (if by8 v 2 != 0 then 1 else 0) + (if by8 v 3 != 0 then 1 else 0) := rfl
theorem tks_2 {v : Int32} {x : (Nat → Int32) × Nat} {i : Nat} (hi : i < 4) : (tks v i x).2 + (if by8 v (3 - i) != 0 then 1 else 0) ≤ x.2 + nb v := by
  have h : i = 0 ∨ i = 1 ∨ i = 2 ∨ i = 3 := by omega
  rcases h with rfl | rfl | rfl | rfl <;> simp only [tks, t1_2, nb_eq, Nat.reduceSub, Nat.sub_zero, Nat.sub_self] <;> omega
theorem upd_self {f : Nat → Int32} {k : Nat} {x : Int32} (h : f k = x) : upd f k x = f := by
  funext j
  unfold upd
  by_cases z : j = k
  · rw [if_pos z, z, h]
  · rw [if_neg z]
