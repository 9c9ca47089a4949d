/-! The words for what both sides say: counting the numbers below n that p holds of; the members of a set in the reference's row. -/
def ct (p : Nat → Bool) : Nat → Nat
  | 0 => 0
  | n + 1 => ct p n + (if p n then 1 else 0)
def hM (hs : Nat → Bool) (s : Nat) : Nat → Bool := fun i => hs (1024 * s + i)
theorem ct_le (p : Nat → Bool) : ∀ n, ct p n ≤ n
  | 0 => Nat.le_refl 0
  | n + 1 => by
    have h := ct_le p n
    simp only [ct]
    split <;> omega
theorem ct_cong {p q : Nat → Bool} : ∀ {n : Nat}, (∀ i, i < n → p i = q i) → ct p n = ct q n
  | 0, _ => rfl
  | n + 1, h => by
    simp only [ct]
    rw [ct_cong (fun i hi => h i (Nat.lt_succ_of_lt hi)), h n (Nat.lt_succ_self n)]
theorem zn_ne0 {n : Nat} (h0 : 0 < n) (h : n < 2 ^ 31) : ¬ nI n = 0 := nI_ne0 h0 h
theorem zn_dec {n : Nat} (k : Nat) (h : k ≤ n) : nI n + Int32.ofInt (-(k : Int)) = nI (n - k) := by
  have h1 : Int32.ofInt (-(k : Int)) = - nI k := by
    rw [Int32.ofInt_neg]
    rfl
  rw [h1, ← pk_sub h, Int32.sub_eq_add_neg]
theorem zb_tf (b : Bool) : b = true ∨ b = false := by cases b <;> simp
