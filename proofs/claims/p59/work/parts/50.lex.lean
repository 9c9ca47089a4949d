/-! The texts' tokens and grammar, as both sides read them. t: the bytes (0 behind the end), n: how many. -/
def dg (b : Nat) : Bool := decide (48 ≤ b ∧ b ≤ 57)
def bl (b : Nat) : Bool := decide (b = 32 ∨ b = 10)
def sg12 : List Nat := [59, 43, 45, 94, 38, 124, 126, 33, 61, 91, 93, 44]
def sgn (b : Nat) : Bool := decide (b ∈ sg12)
def skp (t : Nat → Nat) : Nat → Nat → Nat
  | 0, p => p
  | d + 1, p => if bl (t p) then skp t d (p + 1) else p
def sk (t : Nat → Nat) (n p : Nat) : Nat := skp t (n - p) p
def drr (t : Nat → Nat) : Nat → Nat → Nat
  | 0, _ => 0
  | d + 1, p => if dg (t p) then drr t d (p + 1) + 1 else 0
def dr (t : Nat → Nat) (n p : Nat) : Nat := drr t (n - p) p
def nv (t : Nat → Nat) (p : Nat) : Nat → Nat
  | 0 => 0
  | m + 1 => 10 * nv t p m + (t (p + m) - 48)
def kd (t : Nat → Nat) (n p : Nat) : Nat := if n ≤ p then 0 else if dg (t p) then (if dr t n p ≤ 4 ∧ nv t p (dr t n p) < 1024 then 3 else 1) else if 97 ≤ t p ∧ t p ≤ 104 then 2 else if t p = 46 ∧ t (p + 1) = 46 then 4 else if sgn (t p) then t p else 1
def vl (t : Nat → Nat) (n p : Nat) : Nat := if dg (t p) then nv t p (dr t n p) else t p - 97
def tl (t : Nat → Nat) (n p : Nat) : Nat := if n ≤ p then 0 else if dg (t p) then dr t n p else if t p = 46 ∧ t (p + 1) = 46 then 2 else 1
def tS (t : Nat → Nat) (n : Nat) : Nat → Nat
  | 0 => sk t n 0
  | i + 1 => sk t n (tS t n i + tl t n (tS t n i))
def tE (t : Nat → Nat) (n i : Nat) : Nat := tS t n i + tl t n (tS t n i)
def tK (t : Nat → Nat) (n i : Nat) : Nat := kd t n (tS t n i)
def tV (t : Nat → Nat) (n i : Nat) : Nat := vl t n (tS t n i)
theorem skp_at {t : Nat → Nat} {q : Nat} : ∀ (d p : Nat), p ≤ q → q ≤ p + d → (q < p + d → bl (t q) = false) → (∀ k, p ≤ k → k < q → bl (t k) = true) → skp t d p = q
  | 0, p, h1, h2, _, _ => by unfold skp; omega
  | d + 1, p, h1, h2, h3, h4 => by
    unfold skp
    rcases Nat.lt_or_ge p q with z | z
    · rw [if_pos (h4 p (Nat.le_refl _) z)]
      exact skp_at d (p + 1) z (by omega) (fun h => h3 (by omega)) (fun k a b => h4 k (by omega) b)
    · have e : p = q := by omega
      subst e
      rw [if_neg (by rw [h3 (by omega)]; decide)]
theorem sk_at {t : Nat → Nat} {n p q : Nat} (h1 : p ≤ q) (h2 : q ≤ n) (h3 : q < n → bl (t q) = false) (h4 : ∀ k, p ≤ k → k < q → bl (t k) = true) : sk t n p = q := skp_at _ p h1 (by omega) (fun h => h3 (by omega)) h4
theorem skp_le {t : Nat → Nat} : ∀ (d p : Nat), p ≤ skp t d p ∧ skp t d p ≤ p + d
  | 0, p => ⟨Nat.le_refl _, Nat.le_refl _⟩
  | d + 1, p => by
    unfold skp
    have := skp_le (t := t) d (p + 1)
    split <;> omega
theorem sk_le {t : Nat → Nat} {n p : Nat} (h : p ≤ n) : p ≤ sk t n p ∧ sk t n p ≤ n := by
  have := skp_le (t := t) (n - p) p
  unfold sk
  omega
theorem drr_at {t : Nat → Nat} : ∀ (d p m : Nat), m ≤ d → (m < d → dg (t (p + m)) = false) → (∀ k, k < m → dg (t (p + k)) = true) → drr t d p = m
  | 0, p, m, h1, _, _ => by unfold drr; omega
  | d + 1, p, 0, _, h2, _ => by
    unfold drr
    rw [if_neg (by rw [show t p = t (p + 0) from rfl, h2 (by omega)]; decide)]
  | d + 1, p, m + 1, h1, h2, h3 => by
    unfold drr
    rw [if_pos (show dg (t p) = true from h3 0 (by omega)), drr_at d (p + 1) m (by omega) (fun h => by rw [show p + 1 + m = p + (m + 1) by omega]; exact h2 (by omega)) (fun k hk => by rw [show p + 1 + k = p + (k + 1) by omega]; exact h3 (k + 1) (by omega))]
theorem dr_at {t : Nat → Nat} {n p m : Nat} (h0 : p + m ≤ n) (h2 : p + m < n → dg (t (p + m)) = false) (h3 : ∀ k, k < m → dg (t (p + k)) = true) : dr t n p = m := drr_at _ p m (by omega) (fun h => h2 (by omega)) h3
theorem drr_le {t : Nat → Nat} : ∀ (d p : Nat), drr t d p ≤ d
  | 0, _ => Nat.le_refl _
  | d + 1, p => by
    unfold drr
    have := drr_le (t := t) d (p + 1)
    split <;> omega
theorem dr_pos {t : Nat → Nat} {n p : Nat} (hp : p < n) (h : dg (t p) = true) : 0 < dr t n p ∧ p + dr t n p ≤ n := by
  have h1 := drr_le (t := t) (n - p) p
  unfold dr
  refine ⟨?_, by omega⟩
  obtain ⟨d, hd⟩ : ∃ d, n - p = d + 1 := ⟨n - p - 1, by omega⟩
  rw [hd]
  unfold drr
  rw [if_pos h]
  omega
theorem tl_ok {t : Nat → Nat} {n p : Nat} (hn : ∀ k, n ≤ k → t k = 0) (hp : p < n) : 0 < tl t n p ∧ p + tl t n p ≤ n := by
  unfold tl
  rw [if_neg (by omega)]
  split
  · exact dr_pos hp (by assumption)
  · split
    · rename_i h
      refine ⟨by omega, ?_⟩
      rcases Nat.lt_or_ge (p + 1) n with z | z
      · omega
      · have := hn (p + 1) z
        omega
    · omega
theorem tl_end {t : Nat → Nat} {n p : Nat} (hp : n ≤ p) : tl t n p = 0 := if_pos hp
theorem tS_le {t : Nat → Nat} {n : Nat} (hn : ∀ k, n ≤ k → t k = 0) : ∀ i, tS t n i ≤ n ∧ tE t n i ≤ n
  | 0 => by
    have h := sk_le (t := t) (n := n) (p := 0) (Nat.zero_le _)
    refine ⟨h.2, ?_⟩
    unfold tE
    rcases Nat.lt_or_ge (tS t n 0) n with z | z
    · exact (tl_ok hn z).2
    · rw [tl_end z]; exact h.2
  | i + 1 => by
    have ih := tS_le hn i
    have h := sk_le (t := t) (n := n) (p := tS t n i + tl t n (tS t n i)) ih.2
    refine ⟨h.2, ?_⟩
    unfold tE
    rcases Nat.lt_or_ge (tS t n (i + 1)) n with z | z
    · exact (tl_ok hn z).2
    · rw [tl_end z]; exact h.2
theorem tS_up {t : Nat → Nat} {n : Nat} (hn : ∀ k, n ≤ k → t k = 0) (i : Nat) : tS t n i ≤ tE t n i ∧ tE t n i ≤ tS t n (i + 1) ∧ (tS t n i < n → tS t n i < tE t n i) ∧ (n ≤ tS t n i → tS t n (i + 1) = n) := by
  have h1 := (tS_le hn i).2
  have h2 := sk_le (t := t) (n := n) (p := tE t n i) h1
  refine ⟨Nat.le_add_right _ _, h2.1, fun z => ?_, fun z => ?_⟩
  · have := (tl_ok hn z).1
    unfold tE
    omega
  · have h3 := (tS_le hn (i + 1)).1
    have h4 : tS t n i ≤ tE t n i := Nat.le_add_right _ _
    have h5 : tE t n i ≤ tS t n (i + 1) := h2.1
    omega
theorem sg_pos {b : Nat} (h : sgn b = true) : 33 ≤ b ∧ b ≤ 126 ∧ b ≠ 46 ∧ ¬ (48 ≤ b ∧ b ≤ 57) ∧ ¬ (97 ≤ b ∧ b ≤ 104) := by
  unfold sgn at h
  have h2 := of_decide_eq_true h
  simp only [sg12, List.mem_cons, List.not_mem_nil, or_false] at h2
  omega
theorem kd_0 {t : Nat → Nat} {n p : Nat} : kd t n p = 0 ↔ n ≤ p := by
  unfold kd
  split
  · exact ⟨fun _ => by assumption, fun _ => rfl⟩
  · refine ⟨fun h => ?_, fun h => absurd h (by assumption)⟩
    exfalso
    revert h
    split
    · split <;> omega
    · split
      · omega
      · split
        · omega
        · split
          · rename_i h5
            have := sg_pos h5
            omega
          · omega
theorem kd_le {t : Nat → Nat} {n p : Nat} : kd t n p ≤ 126 ∧ (5 ≤ kd t n p → kd t n p = t p ∧ sgn (t p) = true) := by
  unfold kd
  split
  · omega
  · split
    · split <;> omega
    · split
      · omega
      · split
        · omega
        · split
          · rename_i h5
            have := sg_pos h5
            exact ⟨by omega, fun _ => ⟨rfl, h5⟩⟩
          · omega
theorem tK_0 {t : Nat → Nat} {n i : Nat} (hn : ∀ k, n ≤ k → t k = 0) : tK t n i = 0 ↔ tS t n i = n := by
  have := (tS_le hn i).1
  unfold tK
  rw [kd_0]
  omega
theorem tS_ge {t : Nat → Nat} {n : Nat} (hn : ∀ k, n ≤ k → t k = 0) : ∀ i, tS t n i < n → i ≤ tS t n i
  | 0, _ => Nat.zero_le _
  | i + 1, h => by
    have h1 := tS_up hn i
    have h2 : tS t n i < n := by
      rcases Nat.lt_or_ge (tS t n i) n with z | z
      · exact z
      · rw [h1.2.2.2 z] at h; omega
    have := tS_ge hn i h2
    have := h1.2.2.1 h2
    omega
/-- a token stands ahead of place 400 -/
theorem tK_lt {t : Nat → Nat} {n i : Nat} (hn : ∀ k, n ≤ k → t k = 0) (h : tK t n i ≠ 0) : i < n := by
  have h1 : tS t n i < n := by
    have := (tS_le hn i).1
    have : ¬ tS t n i = n := fun z => h ((tK_0 hn).mpr z)
    omega
  have := tS_ge hn i h1
  omega
/-! the grammar over the kinds: 2 a set, 3 a number, 4 two points, a sign by its byte -/
def rgR (K : Nat → Nat) (i : Nat) : Bool × Nat := if K i ≠ 3 then (false, i) else if K (i + 1) ≠ 4 then (true, i + 1) else if K (i + 2) ≠ 3 then (false, i + 2) else (true, i + 3)
def seR (K : Nat → Nat) (i : Nat) : Bool × Nat := if K i ≠ 2 then (false, i) else (true, i + 1)
def liR (K : Nat → Nat) : Nat → Nat → Bool × Nat
  | 0, j => (false, j)
  | d + 1, j => if K j ≠ 3 then (false, j) else if K (j + 1) = 44 then liR K d (j + 2) else if K (j + 1) = 93 then (true, j + 2) else (false, j + 1)
def liN (K : Nat → Nat) : Nat → Nat → Nat
  | 0, _ => 0
  | d + 1, j => if K j ≠ 3 then 0 else if K (j + 1) = 44 then liN K d (j + 2) + 1 else 1
def roR (K : Nat → Nat) (i : Nat) : Bool × Nat := if K i = 93 then (true, i + 1) else liR K 400 i
def roN (K : Nat → Nat) (i : Nat) : Nat := if K i = 93 then 0 else liN K 400 i
def isR (k : Nat) : Prop := k = 43 ∨ k = 45 ∨ k = 94
def isS (k : Nat) : Prop := k = 38 ∨ k = 124 ∨ k = 126 ∨ k = 33 ∨ k = 61
def acR (K : Nat → Nat) (i : Nat) : Bool × Nat := if K i = 43 ∨ K i = 45 ∨ K i = 94 then rgR K (i + 1) else if K i = 61 ∧ K (i + 1) = 91 then roR K (i + 2) else if K i = 38 ∨ K i = 124 ∨ K i = 126 ∨ K i = 33 ∨ K i = 61 then seR K (i + 1) else (false, i)
def stR (K : Nat → Nat) (i : Nat) : Bool × Nat := if K i ≠ 2 then (false, i) else if (acR K (i + 1)).1 = false then (false, (acR K (i + 1)).2) else if K (acR K (i + 1)).2 = 59 then (true, (acR K (i + 1)).2 + 1) else (false, (acR K (i + 1)).2)
/-- what the statement that begins at i is: its sign, its first and second number (a list's: its places), c numbers listed ahead of it -/
def isL (K : Nat → Nat) (i : Nat) : Bool := decide (K (i + 1) = 61 ∧ K (i + 2) = 91)
def slc (K : Nat → Nat) (i : Nat) : Nat := if isL K i then roN K (i + 3) else 0
def sac (K : Nat → Nat) (i : Nat) : Nat := if isL K i then 91 else K (i + 1)
def sfi (K V : Nat → Nat) (c i : Nat) : Nat := if isL K i then c else V (i + 2)
def sse (K V : Nat → Nat) (c i : Nat) : Nat := if isL K i then c + slc K i else if K (i + 1) = 43 ∨ K (i + 1) = 45 ∨ K (i + 1) = 94 then (if K (i + 3) = 4 then V (i + 4) else V (i + 2) + 1) else V (i + 2)
/-- the statements' beginnings; how many numbers are listed ahead of each -/
def sI (K : Nat → Nat) : Nat → Nat
  | 0 => 0
  | m + 1 => (stR K (sI K m)).2
def sC (K : Nat → Nat) : Nat → Nat
  | 0 => 0
  | m + 1 => sC K m + slc K (sI K m)
/-- m statements are read, none of them wrong -/
def okS (K : Nat → Nat) (m : Nat) : Prop := ∀ k, k < m → K (sI K k) ≠ 0 ∧ (stR K (sI K k)).1 = true
theorem okS_up {K : Nat → Nat} {m : Nat} (h : okS K m) (h1 : K (sI K m) ≠ 0) (h2 : (stR K (sI K m)).1 = true) : okS K (m + 1) := fun k hk => by
  rcases Nat.lt_or_ge k m with z | z
  · exact h k z
  · rw [show k = m by omega]; exact ⟨h1, h2⟩
theorem okS_eq {K : Nat → Nat} {m n : Nat} (h : okS K m) (h1 : K (sI K m) = 0 ∨ (stR K (sI K m)).1 = false) (g : okS K n) (g1 : K (sI K n) = 0 ∨ (stR K (sI K n)).1 = false) : m = n := by
  rcases Nat.lt_trichotomy m n with z | z | z
  · have := g m z
    rcases h1 with y | y
    · exact absurd y this.1
    · rw [y] at this; exact absurd this.2 (by decide)
  · exact z
  · have := h n z
    rcases g1 with y | y
    · exact absurd y this.1
    · rw [y] at this; exact absurd this.2 (by decide)
theorem rgR_le {K : Nat → Nat} {i : Nat} : i ≤ (rgR K i).2 ∧ ((rgR K i).1 = true → i + 1 ≤ (rgR K i).2) := by
  unfold rgR
  split
  · simp
  · split
    · simp
    · split <;> simp
theorem liR_le {K : Nat → Nat} : ∀ d i, i ≤ (liR K d i).2 ∧ ((liR K d i).1 = true → i + 2 * liN K d i ≤ (liR K d i).2)
  | 0, i => by simp [liR]
  | d + 1, i => by
    have ih := liR_le (K := K) d (i + 2)
    unfold liR liN
    split
    · simp
    · split
      · exact ⟨by omega, fun h => by have := ih.2 h; omega⟩
      · split <;> simp
theorem seR_le {K : Nat → Nat} {i : Nat} : i ≤ (seR K i).2 ∧ ((seR K i).1 = true → i + 1 ≤ (seR K i).2) := by
  unfold seR
  split <;> simp
theorem roR_le {K : Nat → Nat} {i : Nat} : i ≤ (roR K i).2 ∧ ((roR K i).1 = true → i + 2 * roN K i ≤ (roR K i).2 ∧ i + 1 ≤ (roR K i).2) := by
  unfold roR roN
  split
  · simp
  · have := liR_le (K := K) 400 i
    refine ⟨this.1, fun h => ⟨this.2 h, ?_⟩⟩
    have h2 := this.2 h
    rcases Nat.eq_zero_or_pos (liN K 400 i) with z | z
    · exfalso
      revert h z
      unfold liR liN
      split
      · simp
      · split <;> simp
    · omega
theorem stR_le {K : Nat → Nat} {i : Nat} (h : (stR K i).1 = true) : i + 4 + 2 * slc K i ≤ (stR K i).2 := by
  unfold stR at h ⊢
  by_cases h1 : K i ≠ 2
  · rw [if_pos h1] at h; exact Bool.noConfusion h
  · rw [if_neg h1] at h ⊢
    by_cases h2 : (acR K (i + 1)).1 = false
    · rw [if_pos h2] at h; exact Bool.noConfusion h
    · rw [if_neg h2] at h ⊢
      by_cases h3 : K (acR K (i + 1)).2 = 59
      · rw [if_pos h3]
        show i + 4 + 2 * slc K i ≤ (acR K (i + 1)).2 + 1
        have h4 : (acR K (i + 1)).1 = true := by cases q : (acR K (i + 1)).1; exact absurd q h2; rfl
        unfold acR at h4 ⊢
        by_cases g1 : K (i + 1) = 43 ∨ K (i + 1) = 45 ∨ K (i + 1) = 94
        · rw [if_pos g1] at h4 ⊢
          have := rgR_le.2 h4
          have e : slc K i = 0 := by unfold slc isL; rw [decide_eq_false (by omega)]; rfl
          omega
        · rw [if_neg g1] at h4 ⊢
          by_cases g2 : K (i + 1) = 61 ∧ K (i + 1 + 1) = 91
          · rw [if_pos g2] at h4 ⊢
            have := roR_le.2 h4
            have e : slc K i = roN K (i + 3) := by unfold slc isL; rw [decide_eq_true ⟨g2.1, g2.2⟩]; rfl
            rw [e]
            rw [show i + 1 + 2 = i + 3 by omega] at *
            omega
          · rw [if_neg g2] at h4 ⊢
            have e : slc K i = 0 := by unfold slc isL; rw [decide_eq_false (fun z => g2 ⟨z.1, z.2⟩)]; rfl
            by_cases g3 : K (i + 1) = 38 ∨ K (i + 1) = 124 ∨ K (i + 1) = 126 ∨ K (i + 1) = 33 ∨ K (i + 1) = 61
            · rw [if_pos g3] at h4 ⊢
              have := seR_le.2 h4
              omega
            · rw [if_neg g3] at h4; exact Bool.noConfusion h4
      · rw [if_neg h3] at h; exact Bool.noConfusion h
/-- each statement has four tokens at least, and two more for each number listed -/
theorem sI_ge {K : Nat → Nat} : ∀ m, okS K m → 4 * m + 2 * sC K m ≤ sI K m
  | 0, _ => Nat.le_refl _
  | m + 1, h => by
    have ih := sI_ge (K := K) m (fun k hk => h k (by omega))
    have := stR_le (h m (by omega)).2
    simp only [sI, sC]
    omega
/-! the reference's words for a token -/
def rk (k : Nat) : Nat := if k = 0 then 0 else if k = 2 then 1 else if k = 3 then 2 else if k = 4 then 4 else if k = 1 then 5 else 3
theorem rk_is (k : Nat) : (rk k = 0 ↔ k = 0) ∧ (rk k = 1 ↔ k = 2) ∧ (rk k = 2 ↔ k = 3) ∧ (rk k = 3 ↔ 5 ≤ k) ∧ (rk k = 4 ↔ k = 4) ∧ rk k ≤ 5 := by
  unfold rk
  split
  · omega
  · split
    · omega
    · split
      · omega
      · split
        · omega
        · split <;> omega
def r7 (t : Nat → Nat) (n p : Nat) (f : Int32) : Int32 := if n ≤ p then f else if dg (t p) then nI (nv t p (min (dr t n p) 4)) else if 97 ≤ t p ∧ t p ≤ 104 then nI (t p - 97) else nI (t p)
theorem r7_v {t : Nat → Nat} {n p : Nat} {f : Int32} (h : kd t n p = 2 ∨ kd t n p = 3) : r7 t n p f = nI (vl t n p) := by
  unfold kd at h
  unfold r7 vl
  by_cases h1 : n ≤ p
  · rw [if_pos h1] at h; omega
  · rw [if_neg h1] at h ⊢
    rcases zb_tf (dg (t p)) with h2 | h2
    · rw [if_pos h2] at h ⊢
      rw [if_pos h2]
      by_cases h3 : dr t n p ≤ 4 ∧ nv t p (dr t n p) < 1024
      · rw [show min (dr t n p) 4 = dr t n p by omega]
      · rw [if_neg h3] at h; omega
    · have hd : ¬ dg (t p) = true := by rw [h2]; decide
      rw [if_neg hd] at h ⊢
      rw [if_neg hd]
      by_cases h3 : 97 ≤ t p ∧ t p ≤ 104
      · rw [if_pos h3]
      · rw [if_neg h3] at h
        exfalso
        revert h
        split
        · omega
        · split
          · rename_i h5
            have := sg_pos h5
            omega
          · omega
theorem r7_s {t : Nat → Nat} {n p : Nat} {f : Int32} (h : 5 ≤ kd t n p) : r7 t n p f = nI (kd t n p) := by
  have h1 := kd_le.2 h
  have h2 := sg_pos h1.2
  have h3 : ¬ n ≤ p := fun z => by
    have e : kd t n p = 0 := kd_0.mpr z
    omega
  unfold r7
  rw [if_neg h3, if_neg (by unfold dg; rw [decide_eq_false h2.2.2.2.1]; decide), if_neg h2.2.2.2.2, h1.1]
theorem tc_n {g : Nat → Int32} {n : Nat} : ∀ k, n ≤ k → tc g n k = 0 := fun k h => if_neg (by omega)
