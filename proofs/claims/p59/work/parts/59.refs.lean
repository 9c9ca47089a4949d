/-! What both sides share of the texts and the first sets. -/
theorem kd_dig {t : Nat → Nat} {n p : Nat} (hp : p < n) (h : dg (t p) = true) : kd t n p = (if dr t n p ≤ 4 ∧ nv t p (dr t n p) < 1024 then 3 else 1) ∧ tl t n p = dr t n p ∧ ∀ f, r7 t n p f = nI (nv t p (min (dr t n p) 4)) :=
  ⟨by unfold kd; rw [if_neg (by omega), if_pos h], by unfold tl; rw [if_neg (by omega), if_pos h], fun f => by unfold r7; rw [if_neg (by omega), if_pos h]⟩
theorem kd_nd {t : Nat → Nat} {n p : Nat} (hp : p < n) (h : dg (t p) = false) : kd t n p = (if 97 ≤ t p ∧ t p ≤ 104 then 2 else if t p = 46 ∧ t (p + 1) = 46 then 4 else if sgn (t p) then t p else 1) ∧ tl t n p = (if t p = 46 ∧ t (p + 1) = 46 then 2 else 1) ∧ ∀ f, r7 t n p f = (if 97 ≤ t p ∧ t p ≤ 104 then nI (t p - 97) else nI (t p)) := by
  have h' : ¬ dg (t p) = true := by rw [h]; decide
  exact ⟨by unfold kd; rw [if_neg (by omega), if_neg h'], by unfold tl; rw [if_neg (by omega), if_neg h'], fun f => by unfold r7; rw [if_neg (by omega), if_neg h']⟩
theorem kd_set {t : Nat → Nat} {n p : Nat} (hp : p < n) (h : dg (t p) = false) (h2 : 97 ≤ t p ∧ t p ≤ 104) : kd t n p = 2 ∧ tl t n p = 1 ∧ ∀ f, r7 t n p f = nI (t p - 97) := by
  obtain ⟨a, b, c⟩ := kd_nd hp h
  exact ⟨by rw [a, if_pos h2], by rw [b, if_neg (by omega)], fun f => by rw [c, if_pos h2]⟩
theorem kd_sg {t : Nat → Nat} {n p : Nat} (hp : p < n) (h : sgn (t p) = true) : kd t n p = t p ∧ tl t n p = 1 ∧ ∀ f, r7 t n p f = nI (t p) := by
  have h2 := sg_pos h
  obtain ⟨a, b, c⟩ := kd_nd hp (show dg (t p) = false from decide_eq_false h2.2.2.2.1)
  exact ⟨by rw [a, if_neg h2.2.2.2.2, if_neg (by omega), if_pos h], by rw [b, if_neg (by omega)], fun f => by rw [c, if_neg h2.2.2.2.2]⟩
theorem kd_pts {t : Nat → Nat} {n p : Nat} (hp : p < n) (h : t p = 46) (h2 : t (p + 1) = 46) : kd t n p = 4 ∧ tl t n p = 2 ∧ ∀ f, r7 t n p f = nI (t p) := by
  obtain ⟨a, b, c⟩ := kd_nd hp (show dg (t p) = false from decide_eq_false (by omega))
  exact ⟨by rw [a, if_neg (by omega), if_pos ⟨h, h2⟩], by rw [b, if_pos ⟨h, h2⟩], fun f => by rw [c, if_neg (by omega)]⟩
theorem kd_oth {t : Nat → Nat} {n p : Nat} (hp : p < n) (h : dg (t p) = false) (h2 : ¬ (97 ≤ t p ∧ t p ≤ 104)) (h3 : sgn (t p) = false) (h4 : ¬ (t p = 46 ∧ t (p + 1) = 46)) : kd t n p = 1 ∧ tl t n p = 1 ∧ ∀ f, r7 t n p f = nI (t p) := by
  obtain ⟨a, b, c⟩ := kd_nd hp h
  exact ⟨by rw [a, if_neg h2, if_neg h4, if_neg (by rw [h3]; decide)], by rw [b, if_neg h4], fun f => by rw [c, if_neg h2]⟩
theorem upd_ne {f : Nat → Int32} {i j : Nat} {x : Int32} (h : j ≠ i) : upd f i x j = f j := if_neg h
theorem upd_eq {f : Nat → Int32} {i : Nat} {x : Int32} : upd f i x i = x := if_pos rfl
theorem liR_run {K : Nat → Nat} : ∀ (n d i : Nat), n < d → (∀ k, k ≤ n → K (i + 2 * k) = 3) → (∀ k, k < n → K (i + 2 * k + 1) = 44) → K (i + 2 * n + 1) ≠ 44 → liR K d i = (if K (i + 2 * n + 1) = 93 then (true, i + 2 * n + 2) else (false, i + 2 * n + 1)) ∧ liN K d i = n + 1
  | _, 0, _, h, _, _, _ => absurd h (Nat.not_lt_zero _)
  | 0, d + 1, i, _, h1, _, h3 => by
    unfold liR liN
    have e1 : K i = 3 := h1 0 (Nat.le_refl _)
    have e2 : ¬ K (i + 1) = 44 := h3
    have e1' : ¬ K i ≠ 3 := by omega
    rw [if_neg e1', if_neg e2, if_neg e1', if_neg e2]
    exact ⟨rfl, rfl⟩
  | n + 1, d + 1, i, h, h1, h2, h3 => by
    have ih := liR_run n d (i + 2) (by omega) (fun k hk => by rw [show i + 2 + 2 * k = i + 2 * (k + 1) by omega]; exact h1 (k + 1) (by omega)) (fun k hk => by rw [show i + 2 + 2 * k + 1 = i + 2 * (k + 1) + 1 by omega]; exact h2 (k + 1) (by omega)) (by rw [show i + 2 + 2 * n + 1 = i + 2 * (n + 1) + 1 by omega]; exact h3)
    unfold liR liN
    have e1 : K i = 3 := h1 0 (Nat.zero_le _)
    have e2 : K (i + 1) = 44 := h2 0 (by omega)
    have e1' : ¬ K i ≠ 3 := by omega
    rw [if_neg e1', if_pos e2, if_neg e1', if_pos e2, ih.1, ih.2]
    rw [show i + 2 + 2 * n + 1 = i + 2 * (n + 1) + 1 by omega, show i + 2 + 2 * n + 2 = i + 2 * (n + 1) + 2 by omega]
    exact ⟨rfl, rfl⟩
theorem liR_fail {K : Nat → Nat} : ∀ (n d i : Nat), n < d → (∀ k, k < n → K (i + 2 * k) = 3) → (∀ k, k < n → K (i + 2 * k + 1) = 44) → K (i + 2 * n) ≠ 3 → liR K d i = (false, i + 2 * n)
  | _, 0, _, h, _, _, _ => absurd h (Nat.not_lt_zero _)
  | 0, d + 1, i, _, _, _, h3 => by
    unfold liR
    rw [if_pos (show K i ≠ 3 from h3)]
    rfl
  | n + 1, d + 1, i, h, h1, h2, h3 => by
    have ih := liR_fail n d (i + 2) (by omega) (fun k hk => by rw [show i + 2 + 2 * k = i + 2 * (k + 1) by omega]; exact h1 (k + 1) (by omega)) (fun k hk => by rw [show i + 2 + 2 * k + 1 = i + 2 * (k + 1) + 1 by omega]; exact h2 (k + 1) (by omega)) (by rw [show i + 2 + 2 * n = i + 2 * (n + 1) by omega]; exact h3)
    unfold liR
    have e1 : K i = 3 := h1 0 (by omega)
    have e2 : K (i + 1) = 44 := h2 0 (by omega)
    have e1' : ¬ K i ≠ 3 := by omega
    rw [if_neg e1', if_pos e2, ih, show i + 2 + 2 * n = i + 2 * (n + 1) by omega]
theorem va_up_id {f : Nat → Nat → Int32} {k : Nat} : va_up f k (f k) = f := by
  funext j
  unfold va_up
  by_cases z : j = k
  · rw [if_pos z, z]
  · rw [if_neg z]
theorem isL_f {K : Nat → Nat} {i : Nat} (h : ¬ (K (i + 1) = 61 ∧ K (i + 2) = 91)) : isL K i = false := decide_eq_false h
theorem isL_t {K : Nat → Nat} {i : Nat} (h : K (i + 1) = 61 ∧ K (i + 2) = 91) : isL K i = true := decide_eq_true h
theorem sC_mono {K : Nat → Nat} {k : Nat} : ∀ {m : Nat}, k < m → sC K k + slc K (sI K k) ≤ sC K m
  | 0, h => absurd h (Nat.not_lt_zero _)
  | m + 1, h => by
    simp only [sC]
    rcases Nat.lt_or_ge k m with z | z
    · have := sC_mono (K := K) z
      omega
    · rw [show k = m by omega]; omega
/-- the first n of the numbers lv -/
def pLv (lv : Nat → Nat) : Nat → Nat → Bool
  | 0, _ => false
  | n + 1, j => pLv lv n j || j == lv n
def exS (K V : Nat → Nat) (hs : Nat → Bool) (c i : Nat) : Nat → Bool := if K (i + 1) = 43 then sS hs (V i) (pR (hM hs (V i)) (V (i + 2)) (sse K V c i) true) else if K (i + 1) = 45 then sS hs (V i) (pR (hM hs (V i)) (V (i + 2)) (sse K V c i) false) else if K (i + 1) = 94 then sS hs (V i) (pX (hM hs (V i)) (V (i + 2)) (sse K V c i)) else if isL K i then sS hs (V i) (pLv (fun j => V (i + 3 + 2 * j)) (slc K i)) else sS hs (V i) (fun j => pJ (K (i + 1)) (hM hs (V i) j) (hM hs (V (i + 2)) j))
/-- its numbers are no range -/
def isB (K V : Nat → Nat) (c i : Nat) : Bool := decide ((K (i + 1) = 43 ∨ K (i + 1) = 45 ∨ K (i + 1) = 94) ∧ sse K V c i < V (i + 2))
def hX (K V : Nat → Nat) (hs : Nat → Bool) : Nat → Nat → Bool
  | 0 => hs
  | m + 1 => exS K V (hX K V hs m) (sC K m) (sI K m)
/-- k statements of m are done, the next one stops or there is none -/
def stp (K V : Nat → Nat) (m k : Nat) : Prop := k ≤ m ∧ (∀ j, j < k → isB K V (sC K j) (sI K j) = false) ∧ (k < m → isB K V (sC K k) (sI K k) = true)
theorem sF_upL {hs hs1 : Nat → Bool} {s n : Nat} {lv : Nat → Nat} (hh : hs1 = sS hs s (pLv lv n)) (hl : lv n < 1024) : va_up hs1 (1024 * s + lv n) true = sS hs s (pLv lv (n + 1)) := by
  rw [p1_up hl, hh, sS_sS]
  refine sS_cong (fun j hj => ?_)
  unfold p1
  show (if j = lv n then true else hM (sS hs s (pLv lv n)) s j) = (pLv lv n j || j == lv n)
  rw [hM_sS hj]
  by_cases z : j = lv n
  · rw [if_pos z, z]; simp
  · rw [if_neg z]
    have : (j == lv n) = false := by simp [z]
    rw [this, Bool.or_false]
theorem liR_K3 {K : Nat → Nat} : ∀ d j, (liR K d j).1 = true → ∀ k, k < liN K d j → K (j + 2 * k) = 3
  | 0, j, h => Bool.noConfusion h
  | d + 1, j, h => by
    unfold liR at h
    unfold liN
    by_cases h1 : K j ≠ 3
    · rw [if_pos h1] at h; exact Bool.noConfusion h
    · rw [if_neg h1] at h ⊢
      by_cases h2 : K (j + 1) = 44
      · rw [if_pos h2] at h ⊢
        intro k hk
        rcases Nat.eq_zero_or_pos k with z | z
        · rw [z]; show K j = 3; omega
        · have := liR_K3 d (j + 2) h (k - 1) (by omega)
          rw [show j + 2 + 2 * (k - 1) = j + 2 * k by omega] at this
          exact this
      · rw [if_neg h2]
        intro k hk
        rw [show k = 0 by omega]; show K j = 3; omega
theorem stR_ok {K : Nat → Nat} {i : Nat} (h : (stR K i).1 = true) : K i = 2 ∧ (((K (i + 1) = 43 ∨ K (i + 1) = 45 ∨ K (i + 1) = 94) ∧ K (i + 2) = 3 ∧ (K (i + 3) = 4 → K (i + 4) = 3)) ∨ (isL K i = true ∧ ∀ k, k < slc K i → K (i + 3 + 2 * k) = 3) ∨ (isL K i = false ∧ (K (i + 1) = 38 ∨ K (i + 1) = 124 ∨ K (i + 1) = 126 ∨ K (i + 1) = 33 ∨ K (i + 1) = 61) ∧ K (i + 2) = 2)) := by
  unfold stR at h
  by_cases h1 : K i ≠ 2
  · rw [if_pos h1] at h; exact Bool.noConfusion h
  · rw [if_neg h1] at h
    refine ⟨by omega, ?_⟩
    by_cases h2 : (acR K (i + 1)).1 = false
    · rw [if_pos h2] at h; exact Bool.noConfusion h
    · have h4 : (acR K (i + 1)).1 = true := by cases q : (acR K (i + 1)).1; exact absurd q h2; rfl
      clear h h2
      unfold acR at h4
      by_cases g1 : K (i + 1) = 43 ∨ K (i + 1) = 45 ∨ K (i + 1) = 94
      · rw [if_pos g1] at h4
        left
        unfold rgR at h4
        by_cases q1 : K (i + 1 + 1) ≠ 3
        · rw [if_pos q1] at h4; exact Bool.noConfusion h4
        · rw [if_neg q1] at h4
          by_cases q2 : K (i + 1 + 1 + 1) ≠ 4
          · exact ⟨g1, by show K (i + 1 + 1) = 3; omega, fun z => absurd z q2⟩
          · rw [if_neg q2] at h4
            by_cases q3 : K (i + 1 + 1 + 2) ≠ 3
            · rw [if_pos q3] at h4; exact Bool.noConfusion h4
            · exact ⟨g1, by show K (i + 1 + 1) = 3; omega, fun _ => by show K (i + 1 + 1 + 2) = 3; omega⟩
      · rw [if_neg g1] at h4
        right
        by_cases g2 : K (i + 1) = 61 ∧ K (i + 1 + 1) = 91
        · rw [if_pos g2] at h4
          left
          have hL : isL K i = true := isL_t g2
          refine ⟨hL, ?_⟩
          have hs : slc K i = roN K (i + 3) := by unfold slc; rw [hL]; rfl
          rw [hs]
          have h5 : (roR K (i + 3)).1 = true := h4
          unfold roR at h5
          unfold roN
          by_cases g3 : K (i + 3) = 93
          · rw [if_pos g3]; intro k hk; exact absurd hk (Nat.not_lt_zero _)
          · rw [if_neg g3] at h5 ⊢
            exact liR_K3 400 (i + 3) h5
        · rw [if_neg g2] at h4
          right
          have hL : isL K i = false := isL_f g2
          by_cases g3 : K (i + 1) = 38 ∨ K (i + 1) = 124 ∨ K (i + 1) = 126 ∨ K (i + 1) = 33 ∨ K (i + 1) = 61
          · rw [if_pos g3] at h4
            unfold seR at h4
            by_cases q1 : K (i + 1 + 1) ≠ 2
            · rw [if_pos q1] at h4; exact Bool.noConfusion h4
            · exact ⟨hL, g3, by show K (i + 1 + 1) = 2; omega⟩
          · rw [if_neg g3] at h4; exact Bool.noConfusion h4
theorem tV_2 {t : Nat → Nat} {n j : Nat} (h : tK t n j = 2) : tV t n j < 8 := by
  unfold tK kd at h
  unfold tV vl
  by_cases h1 : n ≤ tS t n j
  · rw [if_pos h1] at h; omega
  · rw [if_neg h1] at h
    rcases zb_tf (dg (t (tS t n j))) with h2 | h2
    · rw [if_pos h2] at h
      revert h
      split <;> omega
    · have hd : ¬ dg (t (tS t n j)) = true := by rw [h2]; decide
      rw [if_neg hd] at h ⊢
      by_cases h3 : 97 ≤ t (tS t n j) ∧ t (tS t n j) ≤ 104
      · omega
      · rw [if_neg h3] at h
        exfalso
        revert h
        split
        · omega
        · split
          · rename_i h5
            have := sg_pos h5
            omega
          · omega
theorem tV_3 {t : Nat → Nat} {n j : Nat} (h : tK t n j = 3) : tV t n j < 1024 := by
  unfold tK kd at h
  unfold tV vl
  by_cases h1 : n ≤ tS t n j
  · rw [if_pos h1] at h; omega
  · rw [if_neg h1] at h
    rcases zb_tf (dg (t (tS t n j))) with h2 | h2
    · rw [if_pos h2] at h ⊢
      by_cases h3 : dr t n (tS t n j) ≤ 4 ∧ nv t (tS t n j) (dr t n (tS t n j)) < 1024
      · exact h3.2
      · rw [if_neg h3] at h; omega
    · have hd : ¬ dg (t (tS t n j)) = true := by rw [h2]; decide
      rw [if_neg hd] at h
      exfalso
      revert h
      split
      · omega
      · split
        · omega
        · split
          · rename_i h5
            have := sg_pos h5
            omega
          · omega
theorem stR_end {K : Nat → Nat} {i : Nat} (h : (stR K i).1 = true) : ∃ j, (stR K i).2 = j + 1 ∧ K j = 59 := by
  unfold stR at h ⊢
  by_cases h1 : K i ≠ 2
  · rw [if_pos h1] at h; exact Bool.noConfusion h
  · rw [if_neg h1] at h ⊢
    by_cases h2 : (acR K (i + 1)).1 = false
    · rw [if_pos h2] at h; exact Bool.noConfusion h
    · rw [if_neg h2] at h ⊢
      by_cases h3 : K (acR K (i + 1)).2 = 59
      · rw [if_pos h3]
        exact ⟨_, rfl, h3⟩
      · rw [if_neg h3] at h; exact Bool.noConfusion h
theorem sI_le {K : Nat → Nat} {n : Nat} (hn : ∀ i, K i ≠ 0 → i < n) : ∀ m, okS K m → sI K m ≤ n
  | 0, _ => Nat.zero_le _
  | m + 1, h => by
    obtain ⟨j, h1, h2⟩ := stR_end (h m (by omega)).2
    have := hn j (by omega)
    simp only [sI]
    omega
def hA0 : Nat → Nat → Bool
  | 0 => fun _ => false
  | k + 1 => va_up (va_up (hA0 k) k true) (1024 + 2 * k) true
def hs00 : Nat → Bool := va_up (va_up (va_up (va_up (va_up (va_up (va_up (va_up (va_up (va_up (va_up (hA0 10) 2049 true) 2050 true) 2051 true) 2053 true) 2056 true) 2061 true) 2069 true) 2111 true) 2112 true) 2175 true) 2176 true
