/-! No NaN comes of a whole number by a whole number that is not 0. -/
theorem fl_low {f : Jvm.FP.Core.Fmt} {s : Bool} {x t : Nat} {N : Nat} (hN : f.exps * f.tails = N) (h : x * f.tails + t < N) : Jvm.FP.Core.assemble f s x t % N = x * f.tails + t := by
  unfold Jvm.FP.Core.assemble
  rw [Nat.add_mul, Nat.mul_assoc, hN, Nat.add_assoc, Nat.mul_add_mod_self_right, Nat.mod_eq_of_lt h]
theorem fl_32 {D : Jvm.FP.Core.Datum} (hD : D = .inf true ∨ D = .inf false ∨ ∃ s c q, D = .fin s c q ∧ c < 2 ^ 24 ∧ (q ≤ Jvm.FP.Core.b32.qmax ∨ c < 2 ^ 23)) : Jvm.FP.Core.encode Jvm.FP.Core.b32 D % 2 ^ 31 ≤ 0x7f800000 := by
  have hN : Jvm.FP.Core.b32.exps * Jvm.FP.Core.b32.tails = 2 ^ 31 := by decide
  have hx : Jvm.FP.Core.b32.exps = 256 := by decide
  have ht : Jvm.FP.Core.b32.tails = 8388608 := by decide
  rcases hD with rfl | rfl | ⟨s, c, q, rfl, hc, hq⟩
  · decide
  · decide
  · have hqx : Jvm.FP.Core.b32.qmax = 104 := by decide
    have hqn : Jvm.FP.Core.b32.qmin = -149 := by decide
    show (if c < Jvm.FP.Core.b32.tails then Jvm.FP.Core.assemble Jvm.FP.Core.b32 s 0 c else Jvm.FP.Core.assemble Jvm.FP.Core.b32 s ((q - Jvm.FP.Core.b32.qmin).toNat + 1) (c - Jvm.FP.Core.b32.tails)) % 2 ^ 31 ≤ _
    by_cases z : c < Jvm.FP.Core.b32.tails
    · rw [if_pos z, fl_low hN (by omega)]
      omega
    · rw [if_neg z, fl_low hN (by rw [ht]; rw [ht] at z; omega)]
      rw [ht] at z ⊢
      omega
theorem fl_64 {D : Jvm.FP.Core.Datum} (hD : D = .inf true ∨ D = .inf false ∨ ∃ s c q, D = .fin s c q ∧ c < 2 ^ 53 ∧ (q ≤ Jvm.FP.Core.b64.qmax ∨ c < 2 ^ 52)) : Jvm.FP.Core.encode Jvm.FP.Core.b64 D % 2 ^ 63 ≤ 0x7ff0000000000000 := by
  have hN : Jvm.FP.Core.b64.exps * Jvm.FP.Core.b64.tails = 2 ^ 63 := by decide
  have ht : Jvm.FP.Core.b64.tails = 4503599627370496 := by decide
  rcases hD with rfl | rfl | ⟨s, c, q, rfl, hc, hq⟩
  · decide
  · decide
  · have hqx : Jvm.FP.Core.b64.qmax = 971 := by decide
    have hqn : Jvm.FP.Core.b64.qmin = -1074 := by decide
    show (if c < Jvm.FP.Core.b64.tails then Jvm.FP.Core.assemble Jvm.FP.Core.b64 s 0 c else Jvm.FP.Core.assemble Jvm.FP.Core.b64 s ((q - Jvm.FP.Core.b64.qmin).toNat + 1) (c - Jvm.FP.Core.b64.tails)) % 2 ^ 63 ≤ _
    by_cases z : c < Jvm.FP.Core.b64.tails
    · rw [if_pos z, fl_low hN (by omega)]
      omega
    · rw [if_neg z, fl_low hN (by rw [ht]; rw [ht] at z; omega)]
      rw [ht] at z ⊢
      omega
theorem fl_rr {f : Jvm.FP.Core.Fmt} {s : Bool} {a b : Nat} {q : Int} (hp : f.tails < 2 ^ f.p) : ∃ D, Jvm.FP.Core.roundRatio f s a b q = D ∧ (D = .inf true ∨ D = .inf false ∨ ∃ s c q, D = .fin s c q ∧ c < 2 ^ f.p ∧ (q ≤ f.qmax ∨ c < f.tails)) := by
  refine ⟨_, rfl, ?_⟩
  have ht : 0 < f.tails := Nat.two_pow_pos _
  have hi : ∀ s', (Jvm.FP.Core.Datum.inf s' = .inf true ∨ Jvm.FP.Core.Datum.inf s' = .inf false) := fun s' => by cases s'; exact Or.inr rfl; exact Or.inl rfl
  unfold Jvm.FP.Core.roundRatio Jvm.FP.Core.roundAt Jvm.FP.Core.settle Jvm.FP.Core.bound
  split
  · exact Or.inr (Or.inr ⟨_, _, _, rfl, by omega, Or.inr ht⟩)
  · split
    · split
      · exact Or.inr (Or.inr ⟨_, _, _, rfl, by assumption, Or.inl (by assumption)⟩)
      · exact (hi _).elim Or.inl (fun h => Or.inr (Or.inl h))
    · split
      · exact Or.inr (Or.inr ⟨_, _, _, rfl, hp, Or.inl (by assumption)⟩)
      · exact (hi _).elim Or.inl (fun h => Or.inr (Or.inl h))
theorem fl_rr32 {s : Bool} {a b : Nat} {q : Int} : Jvm.FP.Core.encode Jvm.FP.Core.b32 (Jvm.FP.Core.roundRatio Jvm.FP.Core.b32 s a b q) % 2 ^ 31 ≤ 0x7f800000 := by
  obtain ⟨D, h1, h2⟩ := fl_rr (f := Jvm.FP.Core.b32) (s := s) (a := a) (b := b) (q := q) (by decide)
  rw [h1]
  exact fl_32 h2
theorem fl_rr64 {s : Bool} {a b : Nat} {q : Int} : Jvm.FP.Core.encode Jvm.FP.Core.b64 (Jvm.FP.Core.roundRatio Jvm.FP.Core.b64 s a b q) % 2 ^ 63 ≤ 0x7ff0000000000000 := by
  obtain ⟨D, h1, h2⟩ := fl_rr (f := Jvm.FP.Core.b64) (s := s) (a := a) (b := b) (q := q) (by decide)
  rw [h1]
  exact fl_64 h2
theorem fl_dn32 {n : Nat} (h : n % 2 ^ 31 ≤ 0x7f800000) : Jvm.FP.Core.decode Jvm.FP.Core.b32 n ≠ .nan := by
  unfold Jvm.FP.Core.decode
  have e1 : Jvm.FP.Core.fieldE Jvm.FP.Core.b32 n = n / 2 ^ 23 % 2 ^ 8 := rfl
  have e2 : Jvm.FP.Core.fieldT Jvm.FP.Core.b32 n = n % 2 ^ 23 := rfl
  have e3 : Jvm.FP.Core.b32.exps - 1 = 255 := by decide
  rw [e1, e2, e3]
  split
  · rw [if_pos (by omega)]; exact fun z => by cases z
  · split <;> exact fun z => by cases z
theorem fl_dn64 {n : Nat} (h : n % 2 ^ 63 ≤ 0x7ff0000000000000) : Jvm.FP.Core.decode Jvm.FP.Core.b64 n ≠ .nan := by
  unfold Jvm.FP.Core.decode
  have e1 : Jvm.FP.Core.fieldE Jvm.FP.Core.b64 n = n / 2 ^ 52 % 2 ^ 11 := rfl
  have e2 : Jvm.FP.Core.fieldT Jvm.FP.Core.b64 n = n % 2 ^ 52 := rfl
  have e3 : Jvm.FP.Core.b64.exps - 1 = 2047 := by decide
  rw [e1, e2, e3]
  split
  · rw [if_pos (by omega)]; exact fun z => by cases z
  · split <;> exact fun z => by cases z
theorem fl_q {f : Jvm.FP.Core.Fmt} {x : Jvm.FP.Core.Datum} {t : Bool} {k : Nat} {r : Int} (hx : x ≠ .nan) (hk : k ≠ 0) : (∃ s, Jvm.FP.Core.quotient f x (.fin t k r) = .inf s) ∨ ∃ s a b q, Jvm.FP.Core.quotient f x (.fin t k r) = Jvm.FP.Core.roundRatio f s a b q := by
  cases x with
  | nan => exact absurd rfl hx
  | inf s => exact Or.inl ⟨_, rfl⟩
  | fin s a q => exact Or.inr ⟨s != t, a, k, q - r, if_neg hk⟩
def flk (b : Nat) : Bool := match Jvm.FP.Core.decode Jvm.FP.Core.b32 (FP.i2f (nI b)).toNat with
  | .fin _ k _ => k != 0
  | _ => false
theorem flk_ok : ∀ b, b < 1025 → 0 < b → flk b = true := by decide +kernel
theorem fl_share {k b : Nat} (h0 : 0 < b) (hb : b ≤ 1024) : vf_n32 (FP.fdiv (FP.i2f (nI k)) (FP.i2f (nI b))) := by
  unfold vf_n32
  rw [UInt32.le_iff_toNat_le, UInt32.toNat_and]
  show (Jvm.FP.Core.div Jvm.FP.Core.b32 (FP.i2f (nI k)).toNat (FP.i2f (nI b)).toNat) % 2 ^ 32 &&& (2 ^ 31 - 1) ≤ 2139095040
  rw [Nat.and_two_pow_sub_one_eq_mod, Nat.mod_mod_of_dvd _ (by decide)]
  unfold Jvm.FP.Core.div
  have e3 : Jvm.FP.Core.decode Jvm.FP.Core.b32 (FP.i2f (nI k)).toNat ≠ .nan := by
    refine fl_dn32 ?_
    show (Jvm.FP.Core.fromInt Jvm.FP.Core.b32 (nI k).toInt) % 2 ^ 32 % 2 ^ 31 ≤ _
    rw [Nat.mod_mod_of_dvd _ (by decide)]
    exact fl_rr32
  have h := flk_ok b (by omega) h0
  unfold flk at h
  revert h
  cases Jvm.FP.Core.decode Jvm.FP.Core.b32 (FP.i2f (nI b)).toNat with
  | nan => intro h; exact Bool.noConfusion h
  | inf s => intro h; exact Bool.noConfusion h
  | fin s c q =>
    intro h
    have hc : c ≠ 0 := fun z => by subst z; exact Bool.noConfusion h
    rcases fl_q (f := Jvm.FP.Core.b32) (t := s) (r := q) e3 hc with ⟨s', e⟩ | ⟨s', a, b', q', e⟩
    · rw [e]; cases s' <;> decide
    · rw [e]; exact fl_rr32
theorem fl_mean {n : Nat} : vf_n64 (FP.ddiv (FP.i2d (nI n)) 4620693217682128896) := by
  unfold vf_n64
  rw [UInt64.le_iff_toNat_le, UInt64.toNat_and]
  show (Jvm.FP.Core.div Jvm.FP.Core.b64 (FP.i2d (nI n)).toNat (4620693217682128896 : UInt64).toNat) % 2 ^ 64 &&& (2 ^ 63 - 1) ≤ 9218868437227405312
  rw [Nat.and_two_pow_sub_one_eq_mod, Nat.mod_mod_of_dvd _ (by decide)]
  unfold Jvm.FP.Core.div
  have e3 : Jvm.FP.Core.decode Jvm.FP.Core.b64 (FP.i2d (nI n)).toNat ≠ .nan := by
    refine fl_dn64 ?_
    show (Jvm.FP.Core.fromInt Jvm.FP.Core.b64 (nI n).toInt) % 2 ^ 64 % 2 ^ 63 ≤ _
    rw [Nat.mod_mod_of_dvd _ (by decide)]
    exact fl_rr64
  have e2 : Jvm.FP.Core.decode Jvm.FP.Core.b64 (4620693217682128896 : UInt64).toNat = .fin false 4503599627370496 (-49) := by decide +kernel
  rw [e2]
  rcases fl_q (f := Jvm.FP.Core.b64) (t := false) (r := -49) e3 (by decide : (4503599627370496 : Nat) ≠ 0) with ⟨s', e⟩ | ⟨s', a, b', q', e⟩
  · rw [e]; cases s' <;> decide
  · rw [e]; exact fl_rr64
