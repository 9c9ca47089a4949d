/-! What the class's questions find. -/
theorem pC_z {q : Nat → Bool} {f t k : Nat} (h : wd (pC q f t) k = 0) {i : Nat} (h1 : 64 * k ≤ i) (h2 : i < 64 * k + 64) (h3 : f ≤ i) (h4 : i < t) : q i = false := by
  have := wd_eq0.mp h (i - 64 * k) (by omega)
  rw [show 64 * k + (i - 64 * k) = i by omega] at this
  unfold pC at this
  simpa [h3, h4] using this
theorem pC_tr {q : Nat → Bool} {f t i : Nat} (h : pC q f t i = true) : f ≤ i ∧ i < t ∧ q i = true := by
  unfold pC at h
  have h1 := Bool.and_eq_true_iff.mp h
  have h2 := of_decide_eq_true h1.1
  exact ⟨h2.1, h2.2, h1.2⟩
theorem pC_fa {q : Nat → Bool} {f t i : Nat} (h : pC q f t i = false) (h1 : f ≤ i) (h2 : i < t) : q i = false := by
  unfold pC at h
  simpa [h1, h2] using h
theorem ln_hit {q : Nat → Bool} {M k t : Nat} (ht : t < 64) (h : pC q 0 M (64 * k + t) = true) (h5 : ∀ j, t < j → j < 64 → pC q 0 M (64 * k + j) = false) (hz : ∀ i, 64 * (k + 1) ≤ i → i < M → q i = false) : nI (64 * k + 63 - (63 - t)) = nI (ln q M) - 1 := by
  obtain ⟨-, h1, h2⟩ := pC_tr h
  have e : ln q M = 64 * k + t + 1 := by
    rw [ln_down (m := 64 * k + t + 1) (by omega) (fun i a b => ?_), ln_here h2]
    rcases Nat.lt_or_ge i (64 * (k + 1)) with z | z
    · have := h5 (i - 64 * k) (by omega) (by omega)
      rw [show 64 * k + (i - 64 * k) = i by omega] at this
      exact pC_fa this (Nat.zero_le _) b
    · exact hz i z b
  rw [e, nI_pred, show 64 * k + 63 - (63 - t) = 64 * k + t by omega]
theorem ln_miss {q : Nat → Bool} {M : Nat} (hz : ∀ i, 0 ≤ i → i < M → q i = false) : (-1 : Int32) = nI (ln q M) - 1 := by
  rw [ln_down (m := 0) (Nat.zero_le _) hz]
  rfl
theorem nx_hit {q : Nat → Bool} {i0 k t : Nat} (h : pC q i0 1024 (64 * k + t) = true) (h5 : ∀ j, j < t → pC q i0 1024 (64 * k + j) = false) (hz : ∀ i, i0 ≤ i → i < 64 * k → q i = false) : nI (64 * k + t) = nx q i0 := by
  obtain ⟨h1, h2, h3⟩ := pC_tr h
  refine (nx_at h3 h1 h2 (fun j a b => ?_)).symm
  rcases Nat.lt_or_ge j (64 * k) with z | z
  · exact hz j a z
  · have := h5 (j - 64 * k) (by omega)
    rw [show 64 * k + (j - 64 * k) = j by omega] at this
    exact pC_fa this a (by omega)
theorem gm_hit {q : Nat → Bool} {i0 k t : Nat} (h : pC (fun i => !q i) i0 1024 (64 * k + t) = true) (h5 : ∀ j, j < t → pC (fun i => !q i) i0 1024 (64 * k + j) = false) (hz : ∀ i, i0 ≤ i → i < 64 * k → (!q i) = false) : nI (64 * k + t) = nI (gm q i0) := by
  obtain ⟨h1, h2, h3⟩ := pC_tr h
  have e : gm q i0 = 64 * k + t := gm_at h1 (by omega) (fun _ => by simpa using h3) (fun j a b => by
    rcases Nat.lt_or_ge j (64 * k) with z | z
    · simpa using hz j a z
    · have := h5 (j - 64 * k) (by omega)
      rw [show 64 * k + (j - 64 * k) = j by omega] at this
      simpa using pC_fa this a (by omega))
  rw [e]
theorem gm_miss {q : Nat → Bool} {i0 : Nat} (hz : ∀ i, i0 ≤ i → i < 1024 → (!q i) = false) : max i0 1024 = gm q i0 := by
  rcases Nat.lt_or_ge i0 1024 with z | z
  · rw [gm_at (j := 1024) (by omega) (by omega) (fun h => by omega) (fun j a b => by simpa using hz j a b)]
    omega
  · rw [gm_at (j := i0) (by omega) (by omega) (fun h => by omega) (fun j a b => by omega)]
    omega
theorem zn_m1p1 (n : Nat) : nI n - 1 + nI 1 = nI n := by
  show nI n - 1 + 1 = nI n
  exact Int32.sub_add_cancel _ _
theorem ln_ge {q : Nat → Bool} : ∀ {n i : Nat}, ln q n ≤ i → i < n → q i = false
  | 0, i, _, h => by omega
  | n + 1, i, h1, h2 => by
    unfold ln at h1
    rcases zb_tf (q n) with z | z
    · rw [if_pos z] at h1
      omega
    · rw [if_neg (by rw [z]; decide)] at h1
      rcases Nat.lt_or_ge i n with y | y
      · exact ln_ge h1 y
      · rw [show i = n by omega, z]
theorem ct_ln {q : Nat → Bool} {p : Nat → Bool} (hp : ∀ i, q i = false → p i = false) : ct p (ln q 1024) = ct p 1024 := ct_stop (ln_le q 1024) (fun i h1 h2 => hp i (ln_ge h1 h2))
theorem su_ln {q : Nat → Bool} : su q (ln q 1024) = su q 1024 := by
  have key : ∀ n, ln q 1024 ≤ n → n ≤ 1024 → su q n = su q (ln q 1024) := by
    intro n
    induction n with
    | zero => intro h _; rw [Nat.le_zero.mp h]
    | succ n ih =>
      intro h1 h2
      rcases Nat.lt_or_ge n (ln q 1024) with z | z
      · rw [show ln q 1024 = n + 1 by omega]
      · simp only [su]
        rw [ln_ge z (by omega), ih z (by omega)]
        rfl
  exact (key 1024 (ln_le q 1024) (Nat.le_refl _)).symm
theorem hz_lt {q : Nat → Bool} {i : Nat} (h : i < 1024) : hz q (i : Int) = q i := by
  rw [hz_N, decide_eq_true h]
  rfl
theorem bg_hz {q : Nat → Bool} {i : Nat} (hi : i < 1024) : bg q i = (q i && !hz q (((i : Nat) : Int) - ((1 : Nat) : Int))) := by
  unfold bg
  congr 1
  rcases Nat.eq_zero_or_pos i with z | z
  · subst z
    unfold hz
    rfl
  · rw [show ((i : Nat) : Int) - ((1 : Nat) : Int) = ((i - 1 : Nat) : Int) by omega, hz_lt (by omega), show (i == 0) = false from by simp; omega]
    rfl
theorem bg_f {q : Nat → Bool} {i : Nat} (h : q i = false) : bg q i = false := by unfold bg; rw [h]; rfl
/-! the longest run, number by number -/
def LR (q : Nat → Bool) (i : Nat) (x : Int32) (n r : Nat) : Prop := r ≤ i ∧ (∀ k, i - r ≤ k → k < i → q k = true) ∧ (r < i → q (i - r - 1) = false) ∧ (x, n) = (if (bst q (i - r)).2 < r then (nI (i - r), r) else bst q (i - r))
theorem bst_in {q : Nat → Bool} {b i : Nat} : ∀ d, i = b + 1 + d → (∀ k, b ≤ k → k < i → q k = true) → bst q i = bst q (b + 1)
  | 0, h, _ => by rw [h]
  | d + 1, h, hq => by
    have ih := bst_in (q := q) (b := b) (i := b + 1 + d) d rfl (fun k a c => hq k a (by omega))
    rw [h, show b + 1 + (d + 1) = (b + 1 + d) + 1 by omega, bst]
    have hb : bg q (b + 1 + d) = false := by
      unfold bg
      rw [hq (b + d) (by omega) (by omega) |> fun e => (show q (b + 1 + d - 1) = true by rw [show b + 1 + d - 1 = b + d by omega]; exact e), show ((b + 1 + d) == 0) = false from by simp]
      simp
    rw [hb]
    simp only [Bool.false_eq_true, if_false, Nat.not_lt_zero]
    exact ih
theorem LR_bst {q : Nat → Bool} {i n r : Nat} {x : Int32} (hi : i ≤ 1024) (h : LR q i x n r) (hq : i < 1024 → q i = false) : (x, n) = bst q i := by
  obtain ⟨h1, h2, h3, h4⟩ := h
  rcases Nat.eq_zero_or_pos r with z | z
  · subst z
    rw [h4]
    simp
  · rw [h4]
    have e : bst q i = bst q (i - r + 1) := bst_in (r - 1) (by omega) h2
    have hb : bg q (i - r) = true := by
      unfold bg
      rw [h2 (i - r) (Nat.le_refl _) (by omega)]
      rcases Nat.lt_or_ge r i with y | y
      · rw [h3 y]; simp
      · rw [show i - r = 0 by omega]; rfl
    have hl : rl q (i - r) = r := rl_at (by omega) (fun k hk => ⟨by omega, h2 _ (by omega) (by omega)⟩) (fun hh => by rw [show i - r + r = i by omega] at hh ⊢; exact hq hh)
    rw [e, bst, hb]
    simp only [if_true, hl]
theorem LR_0 {q : Nat → Bool} : LR q 0 (-1) 0 0 := ⟨Nat.le_refl _, fun k h1 h2 => by omega, fun h => by omega, rfl⟩
theorem LR_f {q : Nat → Bool} {i n r : Nat} {x : Int32} (hi : i < 1024) (h : LR q i x n r) (hq : q i = false) : LR q (i + 1) x n 0 := by
  refine ⟨Nat.zero_le _, fun k h1 h2 => by omega, fun _ => by rw [show i + 1 - 0 - 1 = i by omega]; exact hq, ?_⟩
  have e := LR_bst (by omega) h (fun _ => hq)
  rw [e, Nat.sub_zero, bst, bg_f hq]
  simp
theorem LR_t {q : Nat → Bool} {i n r : Nat} {x : Int32} (h : LR q i x n r) (hq : q i = true) : (n < r + 1 → LR q (i + 1) (nI (i + 1 - (r + 1))) (r + 1) (r + 1)) ∧ (r + 1 ≤ n → LR q (i + 1) x n (r + 1)) := by
  obtain ⟨h1, h2, h3, h4⟩ := h
  have h2' : ∀ k, i + 1 - (r + 1) ≤ k → k < i + 1 → q k = true := fun k a b => by
    rcases Nat.lt_or_ge k i with z | z
    · exact h2 k (by omega) z
    · rw [show k = i by omega, hq]
  have h3' : r + 1 < i + 1 → q (i + 1 - (r + 1) - 1) = false := fun a => by
    rw [show i + 1 - (r + 1) - 1 = i - r - 1 by omega]
    exact h3 (by omega)
  refine ⟨fun hn => ⟨by omega, h2', h3', ?_⟩, fun hn => ⟨by omega, h2', h3', ?_⟩⟩
  · rw [show i + 1 - (r + 1) = i - r by omega]
    by_cases z : (bst q (i - r)).2 < r
    · rw [if_pos (by omega)]
    · rw [if_neg z] at h4
      rw [if_pos (by rw [← h4]; exact hn)]
  · rw [show i + 1 - (r + 1) = i - r by omega]
    by_cases z : (bst q (i - r)).2 < r
    · rw [if_pos z] at h4
      have := congrArg Prod.snd h4
      dsimp only at this
      omega
    · rw [if_neg z] at h4
      rw [if_neg (by rw [← h4]; show ¬ n < r + 1; omega), h4]
theorem LR_end {q : Nat → Bool} {i n r : Nat} {x : Int32} (h : LR q i x n r) (hi : i = ln q 1024) : x = (bst q 1024).1 := by
  have hl := ln_le q 1024
  have e := LR_bst (by omega) h (fun z => ln_ge (by omega) z)
  have key : ∀ m, i ≤ m → m ≤ 1024 → bst q m = bst q i := by
    intro m
    induction m with
    | zero => intro a _; rw [Nat.le_zero.mp a]
    | succ m ih =>
      intro a b
      rcases Nat.lt_or_ge m i with z | z
      · rw [show m + 1 = i by omega]
      · rw [bst, bg_f (ln_ge (q := q) (n := 1024) (i := m) (by omega) (by omega))]
        simp only [Bool.false_eq_true, if_false, Nat.not_lt_zero]
        exact ih z (by omega)
  rw [key 1024 (by omega) (Nat.le_refl _), ← e]
theorem ct_ie (q r : Nat → Bool) : ∀ n, ct q n + ct r n = ct (fun i => q i && r i) n + ct (fun i => q i || r i) n
  | 0 => rfl
  | n + 1 => by
    have ih := ct_ie q r n
    simp only [ct]
    rcases zb_tf (q n) with h | h <;> rcases zb_tf (r n) with h2 | h2 <;> simp [h, h2] <;> omega
abbrev rm_X0_sizeIn : Room := { frames := 2, cells := 0, slots := 0, locals := 45 }
theorem yd_X0_sizeIn : yX0_sizeIn.cls = RX0 ∧ yX0_sizeIn.cls ≠ "java/lang/invoke/MethodHandle" ∧ yX0_sizeIn.cls ≠ "java/lang/invoke/VarHandle" ∧ (parseMethodDescriptor yX0_sizeIn.desc).map (fun d => d.parameters.length) = some 2 := by decide +kernel
set_option maxHeartbeats 4000000 in
set_option maxRecDepth 100000 in
theorem kt_X0_sizeIn (l : Launch) (D : va_G) (C : Nat → ClassId) (K : Nat → Nat) (hAp : DAp K) (F : Nat → Int32) (hs : Nat → Bool) (G T : Nat → Nat → Int32) (s0 : Nat) (f : Nat) (t : Nat) (hs0 : s0 < 8) (hft : f < 2 ^ 31 ∧ t < 2 ^ 31) : CMi l yX0_sizeIn wsX0_sizeIn rm_X0_sizeIn D C K (20 + s0) [.int (nI f), .int (nI t)] F hs G T (fun (r : Int32) (u : CSt) => r = (nI (ct (pC (hM hs s0) f t) 1024)) ∧ u = (F, hs, G, T)) := by
  refine CMi_of (lv := [(0, .ref (K (20 + s0))), (1, .int (nI f)), (2, .int (nI t))]) (cc := cX0_sizeIn) (maxL := 5) (ret := (some .int)) rfl (by decide +kernel) (Nat.le_of_ble_eq_true rfl) rfl ?_
  intro p e s m args below meth c X hml hr hlk
  generalize hQ : MQ below _ args s 0 0 _ = Q
  refine zz_iconst 0 X.1 (v := nI 0) dX0_sizeIn_0 rfl ?_
  refine zz_istore_n 1 X.1 (lv' := [(3, .int (nI 0)), (0, .ref (K (20 + s0))), (1, .int (nI f)), (2, .int (nI t))]) dX0_sizeIn_1 (by decide) rfl ?_
  refine zz_iconst 2 X.1 (v := nI 0) dX0_sizeIn_2 rfl ?_
  refine zz_istore 3 X.1 (lv' := [(4, .int (nI 0)), (3, .int (nI 0)), (0, .ref (K (20 + s0))), (1, .int (nI f)), (2, .int (nI t))]) dX0_sizeIn_3 (by decide) rfl ?_
  have C5 : ∀ (d : Nat) (k : Nat) (n2 : Nat) (hk : k ≤ 16) (hn : n2 = ct (pC (hM hs s0) f t) (64 * k)) (hd : 16 - k < d), ZZ p l e rm_X0_sizeIn s m args below meth c 0 0 Q (zz_A (DAd K) s.heap.size) (DP D C K F (WH hs) G T) 5 [(0, .ref (K (20 + s0))), (1, .int (nI f)), (2, .int (nI t)), (3, .int (nI n2)), (4, .int (nI k))] [] 5 := by
    intro d
    induction d with
    | zero => intro k n2 hk hn hd; exact absurd hd (Nat.not_lt_zero _)
    | succ d ih5 =>
      intro k n2 hk hn hd
      refine zz_iload 5 X.1 4 dX0_sizeIn_5 rfl ?_
      refine zz_bipush 7 X.1 (v := nI 16) dX0_sizeIn_7 rfl ?_
      refine zz_icmp_ge 9 39 X.1 (nI_toInt (by omega)) (nI_toInt (by omega)) dX0_sizeIn_9 (by decide) (fun h9 => ?_) (fun h9 => ?_)
      · skip
        refine zz_iload_n 39 X.1 3 dX0_sizeIn_39 rfl ?_
        rw [← hQ]
        refine zz_iret 40 X.1 hr rfl hlk (F, hs, G, T) ?_ (fun _ h _ => h) dX0_sizeIn_40
        exact ⟨by rw [hn, show 64 * k = 1024 by omega], rfl⟩
      · skip
        refine zz_iload_n 12 X.1 3 dX0_sizeIn_12 rfl ?_
        refine zz_aload_n 13 X.1 0 dX0_sizeIn_13 rfl ?_
        refine dd_getM 14 X (by decide +kernel) (i := s0) (by omega) (by decide +kernel) dX0_sizeIn_14 ?_
        refine zz_iload 17 X.1 4 dX0_sizeIn_17 rfl ?_
        refine dd_lld 19 X (i := s0) (k := k) (by omega) (by omega) dX0_sizeIn_19 ?_
        refine zz_iload 20 X.1 4 dX0_sizeIn_20 rfl ?_
        refine zz_iload_n 22 X.1 1 dX0_sizeIn_22 rfl ?_
        refine zz_iload_n 23 X.1 2 dX0_sizeIn_23 rfl ?_
        refine zz_callS0l 24 ⟨X.1.1, X.1.2, hml, X.2.2.1, X.2.1⟩ (fun q h => Or.inr h) DP_keep (As := [.int (nI k), .int (nI f), .int (nI t)]) (kt_X0_bitsIn l k f t (by first | rfl | assumption | omega) (by first | rfl | assumption | omega)) gX0_sizeIn_X0_bitsIn rfl ⟨rfl, rfl⟩ yd_X0_bitsIn.2 ⟨Nat.le_of_ble_eq_true rfl, Nat.le_of_ble_eq_true rfl⟩ rfl rfl (Nat.le_of_ble_eq_true rfl) ⟨Nat.zero_le _, Nat.zero_le _⟩ dX0_sizeIn_24 ?_
        intro r1 hu1
        obtain rfl := hu1
        refine zz_land 27 X.1 (v := wd (pC (hM hs s0) f t) k) dX0_sizeIn_27 pC_wd ?_
        refine zz_callS0i 28 ⟨X.1.1, X.1.2, hml, X.2.2.1, X.2.1⟩ (fun q h => Or.inr h) DP_keep (As := [.long (wd (pC (hM hs s0) f t) k)]) (kt_J13_bitCount_95d88 l (wd (pC (hM hs s0) f t) k) ) gX0_sizeIn_J13_bitCount_95d88 rfl ⟨rfl, rfl⟩ yd_J13_bitCount_95d88.2 ⟨Nat.le_of_ble_eq_true rfl, Nat.le_of_ble_eq_true rfl⟩ rfl rfl (Nat.le_of_ble_eq_true rfl) ⟨Nat.zero_le _, Nat.zero_le _⟩ dX0_sizeIn_28 ?_
        intro r2 hu2
        obtain rfl := hu2
        refine zz_iadd 31 X.1 (v := (nI (n2 + (ct (fun i => (wd (pC (hM hs s0) f t) k).toBitVec.getLsbD i) 64)))) dX0_sizeIn_31 (nI_add _ _) ?_
        refine zz_istore_n 32 X.1 (lv' := [(3, .int (nI (n2 + (ct (fun i => (wd (pC (hM hs s0) f t) k).toBitVec.getLsbD i) 64)))), (0, .ref (K (20 + s0))), (1, .int (nI f)), (2, .int (nI t)), (4, .int (nI k))]) dX0_sizeIn_32 (by decide) rfl ?_
        refine zz_iinc 33 X.1 4 (v := (nI (k + 1))) (lv' := [(4, .int (nI (k + 1))), (3, .int (nI (n2 + (ct (fun i => (wd (pC (hM hs s0) f t) k).toBitVec.getLsbD i) 64)))), (0, .ref (K (20 + s0))), (1, .int (nI f)), (2, .int (nI t))]) dX0_sizeIn_33 rfl (nI_add k 1) (by decide) rfl ?_
        refine zz_goto 36 5 X.1 dX0_sizeIn_36 (by decide) ?_
        refine zz_lvs [2, 3, 4, 1, 0] rfl ?_
        exact ih5 (k + 1) (n2 + (ct (fun i => (wd (pC (hM hs s0) f t) k).toBitVec.getLsbD i) 64)) (by omega) (by rw [hn]; exact ct_word) (by omega)
  refine zz_lvs [2, 3, 4, 1, 0] rfl ?_
  exact C5 (16 - 0 + 1) 0 0 (by omega) (rfl) (Nat.lt_succ_self _)
abbrev rm_X0_size : Room := { frames := 3, cells := 0, slots := 0, locals := 69 }
theorem yd_X0_size : yX0_size.cls = RX0 ∧ yX0_size.cls ≠ "java/lang/invoke/MethodHandle" ∧ yX0_size.cls ≠ "java/lang/invoke/VarHandle" ∧ (parseMethodDescriptor yX0_size.desc).map (fun d => d.parameters.length) = some 0 := by decide +kernel
set_option maxHeartbeats 4000000 in
set_option maxRecDepth 100000 in
theorem kt_X0_size (l : Launch) (D : va_G) (C : Nat → ClassId) (K : Nat → Nat) (hAp : DAp K) (F : Nat → Int32) (hs : Nat → Bool) (G T : Nat → Nat → Int32) (s0 : Nat) (hs0 : s0 < 8) : CMi l yX0_size wsX0_size rm_X0_size D C K (20 + s0) [] F hs G T (fun (r : Int32) (u : CSt) => r = (nI (ct (hM hs s0) 1024)) ∧ u = (F, hs, G, T)) := by
  refine CMi_of (lv := [(0, .ref (K (20 + s0)))]) (cc := cX0_size) (maxL := 1) (ret := (some .int)) rfl (by decide +kernel) (Nat.le_of_ble_eq_true rfl) rfl ?_
  intro p e s m args below meth c X hml hr hlk
  generalize hQ : MQ below _ args s 0 0 _ = Q
  refine zz_aload_n 0 X.1 0 dX0_size_0 rfl ?_
  refine zz_iconst 1 X.1 (v := nI 0) dX0_size_1 rfl ?_
  refine zz_sipush 2 X.1 (v := nI 1024) dX0_size_2 rfl ?_
  refine dd_callVi 5 X hml (th := 20 + s0) (As := [.int (nI 0), .int (nI 1024)]) (kt_X0_sizeIn l D C K hAp F hs G T s0 0 1024 (by first | rfl | assumption | omega) (by first | rfl | assumption | omega)) gX0_size_X0_sizeIn rfl ⟨rfl, rfl⟩ (dr_M X (i := s0) (by omega)) yd_X0_sizeIn ⟨Nat.le_of_ble_eq_true rfl, Nat.le_of_ble_eq_true rfl⟩ rfl rfl (Nat.le_of_ble_eq_true rfl) ⟨Nat.zero_le _, Nat.zero_le _⟩ dX0_size_5 ?_
  rintro r1 ⟨F1, hs1, G1, T1⟩ hu1
  obtain ⟨rfl, hv1⟩ := hu1
  cases hv1
  refine zz_world (P' := (DP D C K F (WH hs) G T)) (fun _ h => h) ?_
  rw [← hQ]
  refine zz_iret 8 X.1 hr rfl hlk (F, hs, G, T) ?_ (fun _ h _ => h) dX0_size_8
  exact ⟨congrArg nI (ct_cong (fun i hi => by unfold pC; simp [hi])), rfl⟩
abbrev rm_X0_lastUpTo : Room := { frames := 2, cells := 0, slots := 0, locals := 45 }
theorem yd_X0_lastUpTo : yX0_lastUpTo.cls = RX0 ∧ yX0_lastUpTo.cls ≠ "java/lang/invoke/MethodHandle" ∧ yX0_lastUpTo.cls ≠ "java/lang/invoke/VarHandle" ∧ (parseMethodDescriptor yX0_lastUpTo.desc).map (fun d => d.parameters.length) = some 1 := by decide +kernel
set_option maxHeartbeats 4000000 in
set_option maxRecDepth 100000 in
theorem kt_X0_lastUpTo (l : Launch) (D : va_G) (C : Nat → ClassId) (K : Nat → Nat) (hAp : DAp K) (F : Nat → Int32) (hs : Nat → Bool) (G T : Nat → Nat → Int32) (s0 : Nat) (x1 : Int32) (m0 : Nat) (b : Int) (h_b : x1.toInt = b) (hs0 : s0 < 8) (hm : b = (m0 : Int) - 1) : CMi l yX0_lastUpTo wsX0_lastUpTo rm_X0_lastUpTo D C K (20 + s0) [.int x1] F hs G T (fun (r : Int32) (u : CSt) => r = (nI (ln (hM hs s0) (min m0 1024)) - 1) ∧ u = (F, hs, G, T)) := by
  refine CMi_of (lv := [(0, .ref (K (20 + s0))), (1, .int x1)]) (cc := cX0_lastUpTo) (maxL := 6) (ret := (some .int)) rfl (by decide +kernel) (Nat.le_of_ble_eq_true rfl) rfl ?_
  intro p e s m args below meth c X hml hr hlk
  generalize hQ : MQ below _ args s 0 0 _ = Q
  have hlt := Int32.toInt_lt x1
  refine zz_iload_n 0 X.1 1 dX0_lastUpTo_0 rfl ?_
  refine zz_sipush 1 X.1 (v := nI 1023) dX0_lastUpTo_1 rfl ?_
  refine zz_mmin 4 X.1 hml X.2.2.1 ((X.2.1 _ (by decide +kernel))) ((X.2.1 _ (by decide +kernel))) ((X.2.1 _ (by decide +kernel))) ((X.2.1 _ (by decide +kernel))) (Nat.le_of_ble_eq_true rfl) (Nat.le_of_ble_eq_true rfl) (Nat.zero_le _) (Nat.zero_le _) (v := (if nI 1023 < x1 then nI 1023 else x1)) dX0_lastUpTo_4 rfl ?_
  refine zz_iconst 7 X.1 (v := nI 1) dX0_lastUpTo_7 rfl ?_
  refine zz_iadd 8 X.1 (v := (nI (min m0 1024))) dX0_lastUpTo_8 (zi_of ((zi_add (zi_min h_b (nI_toInt (by omega))) (nI_toInt (by omega)) (by omega) (by omega)).trans (by omega))) ?_
  refine zz_istore_n 9 X.1 (lv' := [(2, .int (nI (min m0 1024))), (0, .ref (K (20 + s0))), (1, .int x1)]) dX0_lastUpTo_9 (by decide) rfl ?_
  refine zz_bipush 10 X.1 (v := nI 15) dX0_lastUpTo_10 rfl ?_
  refine zz_istore_n 12 X.1 (lv' := [(3, .int (nI 15)), (2, .int (nI (min m0 1024))), (0, .ref (K (20 + s0))), (1, .int x1)]) dX0_lastUpTo_12 (by decide) rfl ?_
  have C13 : ∀ (d : Nat) (j : Nat) (x3 : Int32) (hj : j ≤ 16) (hx : x3.toInt = (j : Int) - 1) (hz : ∀ i, 64 * j ≤ i → i < (min m0 1024) → hM hs s0 i = false) (hd : j < d), ZZ p l e rm_X0_lastUpTo s m args below meth c 0 0 Q (zz_A (DAd K) s.heap.size) (DP D C K F (WH hs) G T) 6 [(0, .ref (K (20 + s0))), (2, .int (nI (min m0 1024))), (3, .int x3)] [] 13 := by
    intro d
    induction d with
    | zero => intro j x3 hj hx hz hd; exact absurd hd (Nat.not_lt_zero _)
    | succ d ih13 =>
      intro j x3 hj hx hz hd
      refine zz_iload_n 13 X.1 2 dX0_lastUpTo_13 rfl ?_
      refine zz_if_lt 14 59 X.1 hx dX0_lastUpTo_14 (by decide) (fun h14 => ?_) (fun h14 => ?_)
      · skip
        refine zz_iconst 59 X.1 (v := (-1)) dX0_lastUpTo_59 (by decide) ?_
        rw [← hQ]
        refine zz_iret 60 X.1 hr rfl hlk (F, hs, G, T) ?_ (fun _ h _ => h) dX0_lastUpTo_60
        exact ⟨ln_miss (fun i _ h2 => hz i (by omega) h2), rfl⟩
      · skip
        obtain ⟨jj, rfl⟩ : ∃ jj, j = jj + 1 := ⟨j - 1, by omega⟩
        obtain rfl : x3 = nI jj := zi_of (by omega)
        refine zz_aload_n 17 X.1 0 dX0_lastUpTo_17 rfl ?_
        refine dd_getM 18 X (by decide +kernel) (i := s0) (by omega) (by decide +kernel) dX0_lastUpTo_18 ?_
        refine zz_iload_n 21 X.1 2 dX0_lastUpTo_21 rfl ?_
        refine dd_lld 22 X (i := s0) (k := jj) (by omega) (by omega) dX0_lastUpTo_22 ?_
        refine zz_iload_n 23 X.1 2 dX0_lastUpTo_23 rfl ?_
        refine zz_iconst 24 X.1 (v := nI 0) dX0_lastUpTo_24 rfl ?_
        refine zz_iload_n 25 X.1 1 dX0_lastUpTo_25 rfl ?_
        refine zz_callS0l 26 ⟨X.1.1, X.1.2, hml, X.2.2.1, X.2.1⟩ (fun q h => Or.inr h) DP_keep (As := [.int (nI jj), .int (nI 0), .int (nI (min m0 1024))]) (kt_X0_bitsIn l jj 0 (min m0 1024) (by first | rfl | assumption | omega) (by first | rfl | assumption | omega)) gX0_lastUpTo_X0_bitsIn rfl ⟨rfl, rfl⟩ yd_X0_bitsIn.2 ⟨Nat.le_of_ble_eq_true rfl, Nat.le_of_ble_eq_true rfl⟩ rfl rfl (Nat.le_of_ble_eq_true rfl) ⟨Nat.zero_le _, Nat.zero_le _⟩ dX0_lastUpTo_26 ?_
        intro r1 hu1
        obtain rfl := hu1
        refine zz_land 29 X.1 (v := wd (pC (hM hs s0) 0 (min m0 1024)) jj) dX0_lastUpTo_29 pC_wd ?_
        refine zz_lstore 30 X.1 (lv' := [(4, .long (wd (pC (hM hs s0) 0 (min m0 1024)) jj)), (0, .ref (K (20 + s0))), (2, .int (nI (min m0 1024))), (3, .int (nI jj))]) dX0_lastUpTo_30 (by decide) rfl ?_
        refine zz_lload 32 X.1 0 dX0_lastUpTo_32 rfl ?_
        refine zz_lconst 34 X.1 (v := 0) dX0_lastUpTo_34 (by decide) ?_
        refine zz_lcmp 35 X.1 dX0_lastUpTo_35 ?_
        refine zz_ifL_eq 36 53 X.1 dX0_lastUpTo_36 (by decide) (fun h36 => ?_) (fun h36 => ?_)
        · skip
          refine zz_iinc 53 X.1 3 (v := (nI jj + (-1))) (lv' := [(3, .int (nI jj + (-1))), (4, .long (wd (pC (hM hs s0) 0 (min m0 1024)) jj)), (0, .ref (K (20 + s0))), (2, .int (nI (min m0 1024)))]) dX0_lastUpTo_53 rfl rfl (by decide) rfl ?_
          refine zz_goto 56 13 X.1 dX0_lastUpTo_56 (by decide) ?_
          refine zz_lvs [2, 3, 0] rfl ?_
          exact ih13 jj (nI jj + (-1)) (by omega) (zi_decN (by omega)) (fun i h1 h2 => by rcases Nat.lt_or_ge i (64 * (jj + 1)) with z | z; exact pC_z h36 (k := jj) (by omega) (by omega) (Nat.zero_le _) (h2); exact hz i z h2) (by omega)
        · skip
          obtain ⟨tt, ht1, ht2, ht3, ht4, ht5⟩ := wd_high h36
          refine zz_bipush 39 X.1 (v := nI 64) dX0_lastUpTo_39 rfl ?_
          refine zz_iload_n 41 X.1 3 dX0_lastUpTo_41 rfl ?_
          refine zz_imul 42 X.1 (v := (nI (64 * jj))) dX0_lastUpTo_42 (pk_mul _ _) ?_
          refine zz_bipush 43 X.1 (v := nI 63) dX0_lastUpTo_43 rfl ?_
          refine zz_iadd 45 X.1 (v := (nI ((64 * jj) + 63))) dX0_lastUpTo_45 (nI_add _ _) ?_
          refine zz_lload 46 X.1 0 dX0_lastUpTo_46 rfl ?_
          refine zz_callS0i 48 ⟨X.1.1, X.1.2, hml, X.2.2.1, X.2.1⟩ (fun q h => Or.inr h) DP_keep (As := [.long (wd (pC (hM hs s0) 0 (min m0 1024)) jj)]) (kt_J13_numberOfLeadingZeros_95d88 l (wd (pC (hM hs s0) 0 (min m0 1024)) jj) tt (ht1) (ht2) (ht3)) gX0_lastUpTo_J13_numberOfLeadingZeros_95d88 rfl ⟨rfl, rfl⟩ yd_J13_numberOfLeadingZeros_95d88.2 ⟨Nat.le_of_ble_eq_true rfl, Nat.le_of_ble_eq_true rfl⟩ rfl rfl (Nat.le_of_ble_eq_true rfl) ⟨Nat.zero_le _, Nat.zero_le _⟩ dX0_lastUpTo_48 ?_
          intro r2 hu2
          obtain rfl := hu2
          refine zz_isub 51 X.1 (v := (nI (((64 * jj) + 63) - (63 - tt)))) dX0_lastUpTo_51 (pk_sub (by omega)) ?_
          rw [← hQ]
          refine zz_iret 52 X.1 hr rfl hlk (F, hs, G, T) ?_ (fun _ h _ => h) dX0_lastUpTo_52
          exact ⟨ln_hit ht1 ht4 ht5 hz, rfl⟩
  refine zz_lvs [2, 1, 0] rfl ?_
  exact C13 (16 + 1) 16 (nI 15) (by omega) (by rfl) (fun i h1 h2 => by omega) (Nat.lt_succ_self _)
abbrev rm_X0_end : Room := { frames := 3, cells := 0, slots := 0, locals := 70 }
theorem yd_X0_end : yX0_end.cls = RX0 ∧ yX0_end.cls ≠ "java/lang/invoke/MethodHandle" ∧ yX0_end.cls ≠ "java/lang/invoke/VarHandle" ∧ (parseMethodDescriptor yX0_end.desc).map (fun d => d.parameters.length) = some 0 := by decide +kernel
set_option maxHeartbeats 4000000 in
set_option maxRecDepth 100000 in
theorem kt_X0_end (l : Launch) (D : va_G) (C : Nat → ClassId) (K : Nat → Nat) (hAp : DAp K) (F : Nat → Int32) (hs : Nat → Bool) (G T : Nat → Nat → Int32) (s0 : Nat) (hs0 : s0 < 8) : CMi l yX0_end wsX0_end rm_X0_end D C K (20 + s0) [] F hs G T (fun (r : Int32) (u : CSt) => r = (nI (ln (hM hs s0) 1024)) ∧ u = (F, hs, G, T)) := by
  refine CMi_of (lv := [(0, .ref (K (20 + s0)))]) (cc := cX0_end) (maxL := 1) (ret := (some .int)) rfl (by decide +kernel) (Nat.le_of_ble_eq_true rfl) rfl ?_
  intro p e s m args below meth c X hml hr hlk
  generalize hQ : MQ below _ args s 0 0 _ = Q
  refine zz_aload_n 0 X.1 0 dX0_end_0 rfl ?_
  refine zz_sipush 1 X.1 (v := nI 1023) dX0_end_1 rfl ?_
  refine dd_callVi 4 X hml (th := 20 + s0) (As := [.int (nI 1023)]) (kt_X0_lastUpTo l D C K hAp F hs G T s0 (nI 1023) 1024 ((1023 : Nat) : Int) (nI_toInt (by omega)) (by first | rfl | assumption | omega) (by first | rfl | assumption | omega)) gX0_end_X0_lastUpTo rfl ⟨rfl, rfl⟩ (dr_M X (i := s0) (by omega)) yd_X0_lastUpTo ⟨Nat.le_of_ble_eq_true rfl, Nat.le_of_ble_eq_true rfl⟩ rfl rfl (Nat.le_of_ble_eq_true rfl) ⟨Nat.zero_le _, Nat.zero_le _⟩ dX0_end_4 ?_
  rintro r1 ⟨F1, hs1, G1, T1⟩ hu1
  obtain ⟨rfl, hv1⟩ := hu1
  cases hv1
  refine zz_world (P' := (DP D C K F (WH hs) G T)) (fun _ h => h) ?_
  refine zz_iconst 7 X.1 (v := nI 1) dX0_end_7 rfl ?_
  refine zz_iadd 8 X.1 (v := (nI (ln (hM hs s0) 1024))) dX0_end_8 (zn_m1p1 _) ?_
  rw [← hQ]
  refine zz_iret 9 X.1 hr rfl hlk (F, hs, G, T) ?_ (fun _ h _ => h) dX0_end_9
  exact ⟨rfl, rfl⟩
abbrev rm_X0_usedWords : Room := { frames := 4, cells := 0, slots := 0, locals := 90 }
theorem yd_X0_usedWords : yX0_usedWords.cls = RX0 ∧ yX0_usedWords.cls ≠ "java/lang/invoke/MethodHandle" ∧ yX0_usedWords.cls ≠ "java/lang/invoke/VarHandle" ∧ (parseMethodDescriptor yX0_usedWords.desc).map (fun d => d.parameters.length) = some 0 := by decide +kernel
set_option maxHeartbeats 4000000 in
set_option maxRecDepth 100000 in
theorem kt_X0_usedWords (l : Launch) (D : va_G) (C : Nat → ClassId) (K : Nat → Nat) (hAp : DAp K) (F : Nat → Int32) (hs : Nat → Bool) (G T : Nat → Nat → Int32) (s0 : Nat) (hs0 : s0 < 8) : CMi l yX0_usedWords wsX0_usedWords rm_X0_usedWords D C K (20 + s0) [] F hs G T (fun (r : Int32) (u : CSt) => r = (nI ((ln (hM hs s0) 1024 + 63) / 64)) ∧ u = (F, hs, G, T)) := by
  refine CMi_of (lv := [(0, .ref (K (20 + s0)))]) (cc := cX0_usedWords) (maxL := 1) (ret := (some .int)) rfl (by decide +kernel) (Nat.le_of_ble_eq_true rfl) rfl ?_
  intro p e s m args below meth c X hml hr hlk
  generalize hQ : MQ below _ args s 0 0 _ = Q
  refine zz_aload_n 0 X.1 0 dX0_usedWords_0 rfl ?_
  refine dd_callVi 1 X hml (th := 20 + s0) (As := []) (kt_X0_end l D C K hAp F hs G T s0 (by first | rfl | assumption | omega)) gX0_usedWords_X0_end rfl ⟨rfl, rfl⟩ (dr_M X (i := s0) (by omega)) yd_X0_end ⟨Nat.le_of_ble_eq_true rfl, Nat.le_of_ble_eq_true rfl⟩ rfl rfl (Nat.le_of_ble_eq_true rfl) ⟨Nat.zero_le _, Nat.zero_le _⟩ dX0_usedWords_1 ?_
  rintro r1 ⟨F1, hs1, G1, T1⟩ hu1
  obtain ⟨rfl, hv1⟩ := hu1
  cases hv1
  refine zz_world (P' := (DP D C K F (WH hs) G T)) (fun _ h => h) ?_
  have hl := ln_le (hM hs s0) 1024
  refine zz_bipush 4 X.1 (v := nI 63) dX0_usedWords_4 rfl ?_
  refine zz_iadd 6 X.1 (v := (nI ((ln (hM hs s0) 1024) + 63))) dX0_usedWords_6 (nI_add _ _) ?_
  refine zz_bipush 7 X.1 (v := nI 64) dX0_usedWords_7 rfl ?_
  refine zz_idiv 9 X.1 (v := (nI (((ln (hM hs s0) 1024) + 63) / 64))) dX0_usedWords_9 (zn_ne0 (by omega) (by omega)) (pk_div (by omega) (by omega) (by omega)) ?_
  rw [← hQ]
  refine zz_iret 10 X.1 hr rfl hlk (F, hs, G, T) ?_ (fun _ h _ => h) dX0_usedWords_10
  exact ⟨rfl, rfl⟩
abbrev rm_X0_usedBytes : Room := { frames := 4, cells := 0, slots := 0, locals := 90 }
theorem yd_X0_usedBytes : yX0_usedBytes.cls = RX0 ∧ yX0_usedBytes.cls ≠ "java/lang/invoke/MethodHandle" ∧ yX0_usedBytes.cls ≠ "java/lang/invoke/VarHandle" ∧ (parseMethodDescriptor yX0_usedBytes.desc).map (fun d => d.parameters.length) = some 0 := by decide +kernel
set_option maxHeartbeats 4000000 in
set_option maxRecDepth 100000 in
theorem kt_X0_usedBytes (l : Launch) (D : va_G) (C : Nat → ClassId) (K : Nat → Nat) (hAp : DAp K) (F : Nat → Int32) (hs : Nat → Bool) (G T : Nat → Nat → Int32) (s0 : Nat) (hs0 : s0 < 8) : CMi l yX0_usedBytes wsX0_usedBytes rm_X0_usedBytes D C K (20 + s0) [] F hs G T (fun (r : Int32) (u : CSt) => r = (nI ((ln (hM hs s0) 1024 + 7) / 8)) ∧ u = (F, hs, G, T)) := by
  refine CMi_of (lv := [(0, .ref (K (20 + s0)))]) (cc := cX0_usedBytes) (maxL := 1) (ret := (some .int)) rfl (by decide +kernel) (Nat.le_of_ble_eq_true rfl) rfl ?_
  intro p e s m args below meth c X hml hr hlk
  generalize hQ : MQ below _ args s 0 0 _ = Q
  refine zz_aload_n 0 X.1 0 dX0_usedBytes_0 rfl ?_
  refine dd_callVi 1 X hml (th := 20 + s0) (As := []) (kt_X0_end l D C K hAp F hs G T s0 (by first | rfl | assumption | omega)) gX0_usedBytes_X0_end rfl ⟨rfl, rfl⟩ (dr_M X (i := s0) (by omega)) yd_X0_end ⟨Nat.le_of_ble_eq_true rfl, Nat.le_of_ble_eq_true rfl⟩ rfl rfl (Nat.le_of_ble_eq_true rfl) ⟨Nat.zero_le _, Nat.zero_le _⟩ dX0_usedBytes_1 ?_
  rintro r1 ⟨F1, hs1, G1, T1⟩ hu1
  obtain ⟨rfl, hv1⟩ := hu1
  cases hv1
  refine zz_world (P' := (DP D C K F (WH hs) G T)) (fun _ h => h) ?_
  have hl := ln_le (hM hs s0) 1024
  refine zz_bipush 4 X.1 (v := nI 7) dX0_usedBytes_4 rfl ?_
  refine zz_iadd 6 X.1 (v := (nI ((ln (hM hs s0) 1024) + 7))) dX0_usedBytes_6 (nI_add _ _) ?_
  refine zz_bipush 7 X.1 (v := nI 8) dX0_usedBytes_7 rfl ?_
  refine zz_idiv 9 X.1 (v := (nI (((ln (hM hs s0) 1024) + 7) / 8))) dX0_usedBytes_9 (zn_ne0 (by omega) (by omega)) (pk_div (by omega) (by omega) (by omega)) ?_
  rw [← hQ]
  refine zz_iret 10 X.1 hr rfl hlk (F, hs, G, T) ?_ (fun _ h _ => h) dX0_usedBytes_10
  exact ⟨rfl, rfl⟩
abbrev rm_X0_digest : Room := { frames := 0, cells := 0, slots := 0, locals := 0 }
theorem yd_X0_digest : yX0_digest.cls = RX0 ∧ yX0_digest.cls ≠ "java/lang/invoke/MethodHandle" ∧ yX0_digest.cls ≠ "java/lang/invoke/VarHandle" ∧ (parseMethodDescriptor yX0_digest.desc).map (fun d => d.parameters.length) = some 0 := by decide +kernel
set_option maxHeartbeats 4000000 in
set_option maxRecDepth 100000 in
theorem kt_X0_digest (l : Launch) (D : va_G) (C : Nat → ClassId) (K : Nat → Nat) (hAp : DAp K) (F : Nat → Int32) (hs : Nat → Bool) (G T : Nat → Nat → Int32) (s0 : Nat) (hs0 : s0 < 8) : CMi l yX0_digest wsX0_digest rm_X0_digest D C K (20 + s0) [] F hs G T (fun (r : Int32) (u : CSt) => r = (fpr (hM hs s0)) ∧ u = (F, hs, G, T)) := by
  refine CMi_of (lv := [(0, .ref (K (20 + s0)))]) (cc := cX0_digest) (maxL := 4) (ret := (some .int)) rfl (by decide +kernel) (Nat.le_of_ble_eq_true rfl) rfl ?_
  intro p e s m args below meth c X hml hr hlk
  generalize hQ : MQ below _ args s 0 0 _ = Q
  refine zz_ldc2 0 X.1 (v := 1234) dX0_digest_0 X.2.2.1 (by exact (X.2.1 _ (by decide +kernel))) ?_
  refine zz_lstore_n 3 X.1 (lv' := [(1, .long (1234 : Int64)), (0, .ref (K (20 + s0)))]) dX0_digest_3 (by decide) rfl ?_
  refine zz_bipush 4 X.1 (v := nI 15) dX0_digest_4 rfl ?_
  refine zz_istore_n 6 X.1 (lv' := [(3, .int (nI 15)), (1, .long (1234 : Int64)), (0, .ref (K (20 + s0)))]) dX0_digest_6 (by decide) rfl ?_
  have C7 : ∀ (d : Nat) (j : Nat) (h1 : Int64) (x3 : Int32) (hj : j ≤ 16) (hx : x3.toInt = (j : Int) - 1) (hv : fg (hM hs s0) j h1 = fg (hM hs s0) 16 1234) (hd : j < d), ZZ p l e rm_X0_digest s m args below meth c 0 0 Q (zz_A (DAd K) s.heap.size) (DP D C K F (WH hs) G T) 4 [(0, .ref (K (20 + s0))), (1, .long h1), (3, .int x3)] [] 7 := by
    intro d
    induction d with
    | zero => intro j h1 x3 hj hx hv hd; exact absurd hd (Nat.not_lt_zero _)
    | succ d ih7 =>
      intro j h1 x3 hj hx hv hd
      refine zz_iload_n 7 X.1 2 dX0_digest_7 rfl ?_
      refine zz_if_lt 8 31 X.1 hx dX0_digest_8 (by decide) (fun h8 => ?_) (fun h8 => ?_)
      · skip
        refine zz_lload_n 31 X.1 1 dX0_digest_31 rfl ?_
        refine zz_lload_n 32 X.1 1 dX0_digest_32 rfl ?_
        refine zz_bipush 33 X.1 (v := nI 32) dX0_digest_33 rfl ?_
        refine zz_lshr 35 X.1 (v := h1 >>> ((nI 32).toInt64 &&& 63)) dX0_digest_35 rfl ?_
        refine zz_lxor 36 X.1 (v := h1 ^^^ (h1 >>> ((nI 32).toInt64 &&& 63))) dX0_digest_36 rfl ?_
        refine zz_l2i 37 X.1 (v := ((h1 ^^^ (h1 >>> ((nI 32).toInt64 &&& 63))).toInt32)) dX0_digest_37 rfl ?_
        obtain rfl : j = 0 := by omega
        rw [← hQ]
        refine zz_iret 38 X.1 hr rfl hlk (F, hs, G, T) ?_ (fun _ h _ => h) dX0_digest_38
        refine ⟨?_, rfl⟩
        unfold fpr
        rw [← hv]
        exact congrArg Int64.toInt32 (Int64.xor_comm _ _)
      · skip
        obtain ⟨jj, rfl⟩ : ∃ jj, j = jj + 1 := ⟨j - 1, by omega⟩
        obtain rfl : x3 = nI jj := zi_of (by omega)
        refine zz_lload_n 11 X.1 1 dX0_digest_11 rfl ?_
        refine zz_aload_n 12 X.1 0 dX0_digest_12 rfl ?_
        refine dd_getM 13 X (by decide +kernel) (i := s0) (by omega) (by decide +kernel) dX0_digest_13 ?_
        refine zz_iload_n 16 X.1 2 dX0_digest_16 rfl ?_
        refine dd_lld 17 X (i := s0) (k := jj) (by omega) (by omega) dX0_digest_17 ?_
        refine zz_iload_n 18 X.1 2 dX0_digest_18 rfl ?_
        refine zz_iconst 19 X.1 (v := nI 1) dX0_digest_19 rfl ?_
        refine zz_iadd 20 X.1 (v := (nI (jj + 1))) dX0_digest_20 (nI_add _ _) ?_
        refine zz_i2l 21 X.1 (v := lN (jj + 1)) dX0_digest_21 (nI_l (by omega)) ?_
        refine zz_lmul 22 X.1 (v := ((WH hs) s0 jj) * (lN (jj + 1))) dX0_digest_22 rfl ?_
        refine zz_lxor 23 X.1 (v := h1 ^^^ (((WH hs) s0 jj) * (lN (jj + 1)))) dX0_digest_23 rfl ?_
        refine zz_lstore_n 24 X.1 (lv' := [(1, .long (h1 ^^^ (((WH hs) s0 jj) * (lN (jj + 1))))), (0, .ref (K (20 + s0))), (3, .int (nI jj))]) dX0_digest_24 (by decide) rfl ?_
        refine zz_iinc 25 X.1 2 (v := (nI jj + (-1))) (lv' := [(3, .int (nI jj + (-1))), (1, .long (h1 ^^^ (((WH hs) s0 jj) * (lN (jj + 1))))), (0, .ref (K (20 + s0)))]) dX0_digest_25 rfl rfl (by decide) rfl ?_
        refine zz_goto 28 7 X.1 dX0_digest_28 (by decide) ?_
        refine zz_lvs [2, 1, 0] rfl ?_
        exact ih7 jj (h1 ^^^ (((WH hs) s0 jj) * (lN (jj + 1)))) (nI jj + (-1)) (by omega) (zi_decN (by omega)) (hv) (by omega)
  refine zz_lvs [2, 1, 0] rfl ?_
  exact C7 (16 + 1) 16 (1234 : Int64) (nI 15) (by omega) (by rfl) (by rfl) (Nat.lt_succ_self _)
abbrev rm_X0_firstFrom : Room := { frames := 2, cells := 0, slots := 0, locals := 45 }
theorem yd_X0_firstFrom : yX0_firstFrom.cls = RX0 ∧ yX0_firstFrom.cls ≠ "java/lang/invoke/MethodHandle" ∧ yX0_firstFrom.cls ≠ "java/lang/invoke/VarHandle" ∧ (parseMethodDescriptor yX0_firstFrom.desc).map (fun d => d.parameters.length) = some 1 := by decide +kernel
set_option maxHeartbeats 4000000 in
set_option maxRecDepth 100000 in
theorem kt_X0_firstFrom (l : Launch) (D : va_G) (C : Nat → ClassId) (K : Nat → Nat) (hAp : DAp K) (F : Nat → Int32) (hs : Nat → Bool) (G T : Nat → Nat → Int32) (s0 : Nat) (i0 : Nat) (hs0 : s0 < 8) (hi0 : i0 < 2 ^ 31) : CMi l yX0_firstFrom wsX0_firstFrom rm_X0_firstFrom D C K (20 + s0) [.int (nI i0)] F hs G T (fun (r : Int32) (u : CSt) => r = (nx (hM hs s0) i0) ∧ u = (F, hs, G, T)) := by
  refine CMi_of (lv := [(0, .ref (K (20 + s0))), (1, .int (nI i0))]) (cc := cX0_firstFrom) (maxL := 5) (ret := (some .int)) rfl (by decide +kernel) (Nat.le_of_ble_eq_true rfl) rfl ?_
  intro p e s m args below meth c X hml hr hlk
  generalize hQ : MQ below _ args s 0 0 _ = Q
  refine zz_iconst 0 X.1 (v := nI 0) dX0_firstFrom_0 rfl ?_
  refine zz_istore_n 1 X.1 (lv' := [(2, .int (nI 0)), (0, .ref (K (20 + s0))), (1, .int (nI i0))]) dX0_firstFrom_1 (by decide) rfl ?_
  have C2 : ∀ (d : Nat) (k : Nat) (hk : k ≤ 16) (hz : ∀ i, i0 ≤ i → i < 64 * k → hM hs s0 i = false) (hd : 16 - k < d), ZZ p l e rm_X0_firstFrom s m args below meth c 0 0 Q (zz_A (DAd K) s.heap.size) (DP D C K F (WH hs) G T) 5 [(0, .ref (K (20 + s0))), (1, .int (nI i0)), (2, .int (nI k))] [] 2 := by
    intro d
    induction d with
    | zero => intro k hk hz hd; exact absurd hd (Nat.not_lt_zero _)
    | succ d ih2 =>
      intro k hk hz hd
      refine zz_iload_n 2 X.1 2 dX0_firstFrom_2 rfl ?_
      refine zz_bipush 3 X.1 (v := nI 16) dX0_firstFrom_3 rfl ?_
      refine zz_icmp_ge 5 46 X.1 (nI_toInt (by omega)) (nI_toInt (by omega)) dX0_firstFrom_5 (by decide) (fun h5 => ?_) (fun h5 => ?_)
      · skip
        refine zz_iconst 46 X.1 (v := (-1)) dX0_firstFrom_46 (by decide) ?_
        rw [← hQ]
        refine zz_iret 47 X.1 hr rfl hlk (F, hs, G, T) ?_ (fun _ h _ => h) dX0_firstFrom_47
        exact ⟨(nx_no (fun i h1 h2 => hz i h1 (by omega))).symm, rfl⟩
      · skip
        refine zz_aload_n 8 X.1 0 dX0_firstFrom_8 rfl ?_
        refine dd_getM 9 X (by decide +kernel) (i := s0) (by omega) (by decide +kernel) dX0_firstFrom_9 ?_
        refine zz_iload_n 12 X.1 2 dX0_firstFrom_12 rfl ?_
        refine dd_lld 13 X (i := s0) (k := k) (by omega) (by omega) dX0_firstFrom_13 ?_
        refine zz_iload_n 14 X.1 2 dX0_firstFrom_14 rfl ?_
        refine zz_iload_n 15 X.1 1 dX0_firstFrom_15 rfl ?_
        refine zz_sipush 16 X.1 (v := nI 1024) dX0_firstFrom_16 rfl ?_
        refine zz_callS0l 19 ⟨X.1.1, X.1.2, hml, X.2.2.1, X.2.1⟩ (fun q h => Or.inr h) DP_keep (As := [.int (nI k), .int (nI i0), .int (nI 1024)]) (kt_X0_bitsIn l k i0 1024 (by first | rfl | assumption | omega) (by first | rfl | assumption | omega)) gX0_firstFrom_X0_bitsIn rfl ⟨rfl, rfl⟩ yd_X0_bitsIn.2 ⟨Nat.le_of_ble_eq_true rfl, Nat.le_of_ble_eq_true rfl⟩ rfl rfl (Nat.le_of_ble_eq_true rfl) ⟨Nat.zero_le _, Nat.zero_le _⟩ dX0_firstFrom_19 ?_
        intro r1 hu1
        obtain rfl := hu1
        refine zz_land 22 X.1 (v := wd (pC (hM hs s0) i0 1024) k) dX0_firstFrom_22 pC_wd ?_
        refine zz_lstore_n 23 X.1 (lv' := [(3, .long (wd (pC (hM hs s0) i0 1024) k)), (0, .ref (K (20 + s0))), (1, .int (nI i0)), (2, .int (nI k))]) dX0_firstFrom_23 (by decide) rfl ?_
        refine zz_lload_n 24 X.1 0 dX0_firstFrom_24 rfl ?_
        refine zz_lconst 25 X.1 (v := 0) dX0_firstFrom_25 (by decide) ?_
        refine zz_lcmp 26 X.1 dX0_firstFrom_26 ?_
        refine zz_ifL_eq 27 40 X.1 dX0_firstFrom_27 (by decide) (fun h27 => ?_) (fun h27 => ?_)
        · skip
          refine zz_iinc 40 X.1 3 (v := (nI (k + 1))) (lv' := [(2, .int (nI (k + 1))), (3, .long (wd (pC (hM hs s0) i0 1024) k)), (0, .ref (K (20 + s0))), (1, .int (nI i0))]) dX0_firstFrom_40 rfl (nI_add k 1) (by decide) rfl ?_
          refine zz_goto 43 2 X.1 dX0_firstFrom_43 (by decide) ?_
          refine zz_lvs [2, 3, 0] rfl ?_
          exact ih2 (k + 1) (by omega) (fun i h1 h2 => by rcases Nat.lt_or_ge i (64 * k) with z | z; exact hz i h1 z; exact pC_z (q := hM hs s0) h27 (k := k) (by omega) (by omega) h1 (by omega)) (by omega)
        · skip
          obtain ⟨tt, ht1, ht2, ht3, ht4, ht5⟩ := wd_low h27
          refine zz_bipush 30 X.1 (v := nI 64) dX0_firstFrom_30 rfl ?_
          refine zz_iload_n 32 X.1 3 dX0_firstFrom_32 rfl ?_
          refine zz_imul 33 X.1 (v := (nI (64 * k))) dX0_firstFrom_33 (pk_mul _ _) ?_
          refine zz_lload_n 34 X.1 0 dX0_firstFrom_34 rfl ?_
          refine zz_callS0i 35 ⟨X.1.1, X.1.2, hml, X.2.2.1, X.2.1⟩ (fun q h => Or.inr h) DP_keep (As := [.long (wd (pC (hM hs s0) i0 1024) k)]) (kt_J13_numberOfTrailingZeros_95d88 l (wd (pC (hM hs s0) i0 1024) k) tt (ht1) (ht2) (ht3)) gX0_firstFrom_J13_numberOfTrailingZeros_95d88 rfl ⟨rfl, rfl⟩ yd_J13_numberOfTrailingZeros_95d88.2 ⟨Nat.le_of_ble_eq_true rfl, Nat.le_of_ble_eq_true rfl⟩ rfl rfl (Nat.le_of_ble_eq_true rfl) ⟨Nat.zero_le _, Nat.zero_le _⟩ dX0_firstFrom_35 ?_
          intro r2 hu2
          obtain rfl := hu2
          refine zz_iadd 38 X.1 (v := (nI ((64 * k) + tt))) dX0_firstFrom_38 (nI_add _ _) ?_
          rw [← hQ]
          refine zz_iret 39 X.1 hr rfl hlk (F, hs, G, T) ?_ (fun _ h _ => h) dX0_firstFrom_39
          exact ⟨nx_hit ht4 ht5 hz, rfl⟩
  refine zz_lvs [1, 2, 0] rfl ?_
  exact C2 (16 - 0 + 1) 0 (by omega) (fun i h1 h2 => by omega) (Nat.lt_succ_self _)
abbrev rm_X0_firstGapFrom : Room := { frames := 2, cells := 0, slots := 0, locals := 45 }
theorem yd_X0_firstGapFrom : yX0_firstGapFrom.cls = RX0 ∧ yX0_firstGapFrom.cls ≠ "java/lang/invoke/MethodHandle" ∧ yX0_firstGapFrom.cls ≠ "java/lang/invoke/VarHandle" ∧ (parseMethodDescriptor yX0_firstGapFrom.desc).map (fun d => d.parameters.length) = some 1 := by decide +kernel
set_option maxHeartbeats 4000000 in
set_option maxRecDepth 100000 in
theorem kt_X0_firstGapFrom (l : Launch) (D : va_G) (C : Nat → ClassId) (K : Nat → Nat) (hAp : DAp K) (F : Nat → Int32) (hs : Nat → Bool) (G T : Nat → Nat → Int32) (s0 : Nat) (i0 : Nat) (hs0 : s0 < 8) (hi0 : i0 < 2 ^ 31) : CMi l yX0_firstGapFrom wsX0_firstGapFrom rm_X0_firstGapFrom D C K (20 + s0) [.int (nI i0)] F hs G T (fun (r : Int32) (u : CSt) => r = (nI (gm (hM hs s0) i0)) ∧ u = (F, hs, G, T)) := by
  refine CMi_of (lv := [(0, .ref (K (20 + s0))), (1, .int (nI i0))]) (cc := cX0_firstGapFrom) (maxL := 5) (ret := (some .int)) rfl (by decide +kernel) (Nat.le_of_ble_eq_true rfl) rfl ?_
  intro p e s m args below meth c X hml hr hlk
  generalize hQ : MQ below _ args s 0 0 _ = Q
  refine zz_iconst 0 X.1 (v := nI 0) dX0_firstGapFrom_0 rfl ?_
  refine zz_istore_n 1 X.1 (lv' := [(2, .int (nI 0)), (0, .ref (K (20 + s0))), (1, .int (nI i0))]) dX0_firstGapFrom_1 (by decide) rfl ?_
  have C2 : ∀ (d : Nat) (k : Nat) (hk : k ≤ 16) (hz : ∀ i, i0 ≤ i → i < 64 * k → (!hM hs s0 i) = false) (hd : 16 - k < d), ZZ p l e rm_X0_firstGapFrom s m args below meth c 0 0 Q (zz_A (DAd K) s.heap.size) (DP D C K F (WH hs) G T) 5 [(0, .ref (K (20 + s0))), (1, .int (nI i0)), (2, .int (nI k))] [] 2 := by
    intro d
    induction d with
    | zero => intro k hk hz hd; exact absurd hd (Nat.not_lt_zero _)
    | succ d ih2 =>
      intro k hk hz hd
      refine zz_iload_n 2 X.1 2 dX0_firstGapFrom_2 rfl ?_
      refine zz_bipush 3 X.1 (v := nI 16) dX0_firstGapFrom_3 rfl ?_
      refine zz_icmp_ge 5 50 X.1 (nI_toInt (by omega)) (nI_toInt (by omega)) dX0_firstGapFrom_5 (by decide) (fun h5 => ?_) (fun h5 => ?_)
      · skip
        refine zz_iload_n 50 X.1 1 dX0_firstGapFrom_50 rfl ?_
        refine zz_sipush 51 X.1 (v := nI 1024) dX0_firstGapFrom_51 rfl ?_
        refine zz_mmax 54 X.1 hml X.2.2.1 ((X.2.1 _ (by decide +kernel))) ((X.2.1 _ (by decide +kernel))) ((X.2.1 _ (by decide +kernel))) ((X.2.1 _ (by decide +kernel))) (Nat.le_of_ble_eq_true rfl) (Nat.le_of_ble_eq_true rfl) (Nat.zero_le _) (Nat.zero_le _) (v := (nI (max i0 1024))) dX0_firstGapFrom_54 (zi_of ((zi_max (nI_toInt (by omega)) (nI_toInt (by omega))).trans (by omega))) ?_
        rw [← hQ]
        refine zz_iret 57 X.1 hr rfl hlk (F, hs, G, T) ?_ (fun _ h _ => h) dX0_firstGapFrom_57
        exact ⟨congrArg nI (gm_miss (fun i h1 h2 => hz i h1 (by omega))), rfl⟩
      · skip
        refine zz_aload_n 8 X.1 0 dX0_firstGapFrom_8 rfl ?_
        refine dd_getM 9 X (by decide +kernel) (i := s0) (by omega) (by decide +kernel) dX0_firstGapFrom_9 ?_
        refine zz_iload_n 12 X.1 2 dX0_firstGapFrom_12 rfl ?_
        refine dd_lld 13 X (i := s0) (k := k) (by omega) (by omega) dX0_firstGapFrom_13 ?_
        refine zz_ldc2 14 X.1 (v := -1) dX0_firstGapFrom_14 X.2.2.1 (by exact (X.2.1 _ (by decide +kernel))) ?_
        refine zz_lxor 17 X.1 (v := ((WH hs) s0 k) ^^^ (-1 : Int64)) dX0_firstGapFrom_17 rfl ?_
        refine zz_iload_n 18 X.1 2 dX0_firstGapFrom_18 rfl ?_
        refine zz_iload_n 19 X.1 1 dX0_firstGapFrom_19 rfl ?_
        refine zz_sipush 20 X.1 (v := nI 1024) dX0_firstGapFrom_20 rfl ?_
        refine zz_callS0l 23 ⟨X.1.1, X.1.2, hml, X.2.2.1, X.2.1⟩ (fun q h => Or.inr h) DP_keep (As := [.int (nI k), .int (nI i0), .int (nI 1024)]) (kt_X0_bitsIn l k i0 1024 (by first | rfl | assumption | omega) (by first | rfl | assumption | omega)) gX0_firstGapFrom_X0_bitsIn rfl ⟨rfl, rfl⟩ yd_X0_bitsIn.2 ⟨Nat.le_of_ble_eq_true rfl, Nat.le_of_ble_eq_true rfl⟩ rfl rfl (Nat.le_of_ble_eq_true rfl) ⟨Nat.zero_le _, Nat.zero_le _⟩ dX0_firstGapFrom_23 ?_
        intro r1 hu1
        obtain rfl := hu1
        refine zz_land 26 X.1 (v := wd (pC (fun i => !hM hs s0 i) i0 1024) k) dX0_firstGapFrom_26 pCn_wd ?_
        refine zz_lstore_n 27 X.1 (lv' := [(3, .long (wd (pC (fun i => !hM hs s0 i) i0 1024) k)), (0, .ref (K (20 + s0))), (1, .int (nI i0)), (2, .int (nI k))]) dX0_firstGapFrom_27 (by decide) rfl ?_
        refine zz_lload_n 28 X.1 0 dX0_firstGapFrom_28 rfl ?_
        refine zz_lconst 29 X.1 (v := 0) dX0_firstGapFrom_29 (by decide) ?_
        refine zz_lcmp 30 X.1 dX0_firstGapFrom_30 ?_
        refine zz_ifL_eq 31 44 X.1 dX0_firstGapFrom_31 (by decide) (fun h31 => ?_) (fun h31 => ?_)
        · skip
          refine zz_iinc 44 X.1 3 (v := (nI (k + 1))) (lv' := [(2, .int (nI (k + 1))), (3, .long (wd (pC (fun i => !hM hs s0 i) i0 1024) k)), (0, .ref (K (20 + s0))), (1, .int (nI i0))]) dX0_firstGapFrom_44 rfl (nI_add k 1) (by decide) rfl ?_
          refine zz_goto 47 2 X.1 dX0_firstGapFrom_47 (by decide) ?_
          refine zz_lvs [2, 3, 0] rfl ?_
          exact ih2 (k + 1) (by omega) (fun i h1 h2 => by rcases Nat.lt_or_ge i (64 * k) with z | z; exact hz i h1 z; exact pC_z (q := fun i => !hM hs s0 i) h31 (k := k) (by omega) (by omega) h1 (by omega)) (by omega)
        · skip
          obtain ⟨tt, ht1, ht2, ht3, ht4, ht5⟩ := wd_low h31
          refine zz_bipush 34 X.1 (v := nI 64) dX0_firstGapFrom_34 rfl ?_
          refine zz_iload_n 36 X.1 3 dX0_firstGapFrom_36 rfl ?_
          refine zz_imul 37 X.1 (v := (nI (64 * k))) dX0_firstGapFrom_37 (pk_mul _ _) ?_
          refine zz_lload_n 38 X.1 0 dX0_firstGapFrom_38 rfl ?_
          refine zz_callS0i 39 ⟨X.1.1, X.1.2, hml, X.2.2.1, X.2.1⟩ (fun q h => Or.inr h) DP_keep (As := [.long (wd (pC (fun i => !hM hs s0 i) i0 1024) k)]) (kt_J13_numberOfTrailingZeros_95d88 l (wd (pC (fun i => !hM hs s0 i) i0 1024) k) tt (ht1) (ht2) (ht3)) gX0_firstGapFrom_J13_numberOfTrailingZeros_95d88 rfl ⟨rfl, rfl⟩ yd_J13_numberOfTrailingZeros_95d88.2 ⟨Nat.le_of_ble_eq_true rfl, Nat.le_of_ble_eq_true rfl⟩ rfl rfl (Nat.le_of_ble_eq_true rfl) ⟨Nat.zero_le _, Nat.zero_le _⟩ dX0_firstGapFrom_39 ?_
          intro r2 hu2
          obtain rfl := hu2
          refine zz_iadd 42 X.1 (v := (nI ((64 * k) + tt))) dX0_firstGapFrom_42 (nI_add _ _) ?_
          rw [← hQ]
          refine zz_iret 43 X.1 hr rfl hlk (F, hs, G, T) ?_ (fun _ h _ => h) dX0_firstGapFrom_43
          exact ⟨gm_hit ht4 ht5 hz, rfl⟩
  refine zz_lvs [1, 2, 0] rfl ?_
  exact C2 (16 - 0 + 1) 0 (by omega) (fun i h1 h2 => by omega) (Nat.lt_succ_self _)
abbrev rm_X0_lastGapUpTo : Room := { frames := 2, cells := 0, slots := 0, locals := 45 }
theorem yd_X0_lastGapUpTo : yX0_lastGapUpTo.cls = RX0 ∧ yX0_lastGapUpTo.cls ≠ "java/lang/invoke/MethodHandle" ∧ yX0_lastGapUpTo.cls ≠ "java/lang/invoke/VarHandle" ∧ (parseMethodDescriptor yX0_lastGapUpTo.desc).map (fun d => d.parameters.length) = some 1 := by decide +kernel
set_option maxHeartbeats 4000000 in
set_option maxRecDepth 100000 in
theorem kt_X0_lastGapUpTo (l : Launch) (D : va_G) (C : Nat → ClassId) (K : Nat → Nat) (hAp : DAp K) (F : Nat → Int32) (hs : Nat → Bool) (G T : Nat → Nat → Int32) (s0 : Nat) (x1 : Int32) (m0 : Nat) (b : Int) (h_b : x1.toInt = b) (hs0 : s0 < 8) (hm : b = (m0 : Int) - 1) : CMi l yX0_lastGapUpTo wsX0_lastGapUpTo rm_X0_lastGapUpTo D C K (20 + s0) [.int x1] F hs G T (fun (r : Int32) (u : CSt) => r = (pmv (hM hs s0) m0) ∧ u = (F, hs, G, T)) := by
  refine CMi_of (lv := [(0, .ref (K (20 + s0))), (1, .int x1)]) (cc := cX0_lastGapUpTo) (maxL := 5) (ret := (some .int)) rfl (by decide +kernel) (Nat.le_of_ble_eq_true rfl) rfl ?_
  intro p e s m args below meth c X hml hr hlk
  generalize hQ : MQ below _ args s 0 0 _ = Q
  have hlt := Int32.toInt_lt x1
  refine zz_iload_n 0 X.1 1 dX0_lastGapUpTo_0 rfl ?_
  refine zz_sipush 1 X.1 (v := nI 1023) dX0_lastGapUpTo_1 rfl ?_
  refine zz_icmp_le 4 9 X.1 h_b (nI_toInt (by omega)) dX0_lastGapUpTo_4 (by decide) (fun h4 => ?_) (fun h4 => ?_)
  · skip
    refine zz_bipush 9 X.1 (v := nI 15) dX0_lastGapUpTo_9 rfl ?_
    refine zz_istore_n 11 X.1 (lv' := [(2, .int (nI 15)), (0, .ref (K (20 + s0))), (1, .int x1)]) dX0_lastGapUpTo_11 (by decide) rfl ?_
    have C12 : ∀ (d : Nat) (j : Nat) (x2 : Int32) (hj : j ≤ 16) (hx : x2.toInt = (j : Int) - 1) (hz : ∀ i, 64 * j ≤ i → i < m0 → (!hM hs s0 i) = false) (hd : j < d), ZZ p l e rm_X0_lastGapUpTo s m args below meth c 0 0 Q (zz_A (DAd K) s.heap.size) (DP D C K F (WH hs) G T) 5 [(0, .ref (K (20 + s0))), (1, .int x1), (2, .int x2)] [] 12 := by
      intro d
      induction d with
      | zero => intro j x2 hj hx hz hd; exact absurd hd (Nat.not_lt_zero _)
      | succ d ih12 =>
        intro j x2 hj hx hz hd
        refine zz_iload_n 12 X.1 2 dX0_lastGapUpTo_12 rfl ?_
        refine zz_if_lt 13 61 X.1 hx dX0_lastGapUpTo_13 (by decide) (fun h13 => ?_) (fun h13 => ?_)
        · skip
          refine zz_iconst 61 X.1 (v := (-1)) dX0_lastGapUpTo_61 (by decide) ?_
          rw [← hQ]
          refine zz_iret 62 X.1 hr rfl hlk (F, hs, G, T) ?_ (fun _ h _ => h) dX0_lastGapUpTo_62
          refine ⟨?_, rfl⟩
          unfold pmv
          rw [if_neg (by omega)]
          exact ln_miss (q := fun i => !hM hs s0 i) (fun i _ h2 => hz i (by omega) h2)
        · skip
          obtain ⟨jj, rfl⟩ : ∃ jj, j = jj + 1 := ⟨j - 1, by omega⟩
          obtain rfl : x2 = nI jj := zi_of (by omega)
          refine zz_aload_n 16 X.1 0 dX0_lastGapUpTo_16 rfl ?_
          refine dd_getM 17 X (by decide +kernel) (i := s0) (by omega) (by decide +kernel) dX0_lastGapUpTo_17 ?_
          refine zz_iload_n 20 X.1 2 dX0_lastGapUpTo_20 rfl ?_
          refine dd_lld 21 X (i := s0) (k := jj) (by omega) (by omega) dX0_lastGapUpTo_21 ?_
          refine zz_ldc2 22 X.1 (v := -1) dX0_lastGapUpTo_22 X.2.2.1 (by exact (X.2.1 _ (by decide +kernel))) ?_
          refine zz_lxor 25 X.1 (v := ((WH hs) s0 jj) ^^^ (-1 : Int64)) dX0_lastGapUpTo_25 rfl ?_
          refine zz_iload_n 26 X.1 2 dX0_lastGapUpTo_26 rfl ?_
          refine zz_iconst 27 X.1 (v := nI 0) dX0_lastGapUpTo_27 rfl ?_
          refine zz_iload_n 28 X.1 1 dX0_lastGapUpTo_28 rfl ?_
          refine zz_iconst 29 X.1 (v := nI 1) dX0_lastGapUpTo_29 rfl ?_
          refine zz_iadd 30 X.1 (v := (nI m0)) dX0_lastGapUpTo_30 (zi_of ((zi_add h_b (nI_toInt (by omega)) (by omega) (by omega)).trans (by omega))) ?_
          refine zz_callS0l 31 ⟨X.1.1, X.1.2, hml, X.2.2.1, X.2.1⟩ (fun q h => Or.inr h) DP_keep (As := [.int (nI jj), .int (nI 0), .int (nI m0)]) (kt_X0_bitsIn l jj 0 m0 (by first | rfl | assumption | omega) (by first | rfl | assumption | omega)) gX0_lastGapUpTo_X0_bitsIn rfl ⟨rfl, rfl⟩ yd_X0_bitsIn.2 ⟨Nat.le_of_ble_eq_true rfl, Nat.le_of_ble_eq_true rfl⟩ rfl rfl (Nat.le_of_ble_eq_true rfl) ⟨Nat.zero_le _, Nat.zero_le _⟩ dX0_lastGapUpTo_31 ?_
          intro r1 hu1
          obtain rfl := hu1
          refine zz_land 34 X.1 (v := wd (pC (fun i => !hM hs s0 i) 0 m0) jj) dX0_lastGapUpTo_34 pCn_wd ?_
          refine zz_lstore_n 35 X.1 (lv' := [(3, .long (wd (pC (fun i => !hM hs s0 i) 0 m0) jj)), (0, .ref (K (20 + s0))), (1, .int x1), (2, .int (nI jj))]) dX0_lastGapUpTo_35 (by decide) rfl ?_
          refine zz_lload_n 36 X.1 0 dX0_lastGapUpTo_36 rfl ?_
          refine zz_lconst 37 X.1 (v := 0) dX0_lastGapUpTo_37 (by decide) ?_
          refine zz_lcmp 38 X.1 dX0_lastGapUpTo_38 ?_
          refine zz_ifL_eq 39 55 X.1 dX0_lastGapUpTo_39 (by decide) (fun h39 => ?_) (fun h39 => ?_)
          · skip
            refine zz_iinc 55 X.1 3 (v := (nI jj + (-1))) (lv' := [(2, .int (nI jj + (-1))), (3, .long (wd (pC (fun i => !hM hs s0 i) 0 m0) jj)), (0, .ref (K (20 + s0))), (1, .int x1)]) dX0_lastGapUpTo_55 rfl rfl (by decide) rfl ?_
            refine zz_goto 58 12 X.1 dX0_lastGapUpTo_58 (by decide) ?_
            refine zz_lvs [2, 3, 0] rfl ?_
            exact ih12 jj (nI jj + (-1)) (by omega) (zi_decN (by omega)) (fun i h1 h2 => by rcases Nat.lt_or_ge i (64 * (jj + 1)) with z | z; exact pC_z (q := fun i => !hM hs s0 i) h39 (k := jj) (by omega) (by omega) (Nat.zero_le _) (h2); exact hz i z h2) (by omega)
          · skip
            obtain ⟨tt, ht1, ht2, ht3, ht4, ht5⟩ := wd_high h39
            refine zz_bipush 42 X.1 (v := nI 64) dX0_lastGapUpTo_42 rfl ?_
            refine zz_iload_n 44 X.1 3 dX0_lastGapUpTo_44 rfl ?_
            refine zz_imul 45 X.1 (v := (nI (64 * jj))) dX0_lastGapUpTo_45 (pk_mul _ _) ?_
            refine zz_bipush 46 X.1 (v := nI 63) dX0_lastGapUpTo_46 rfl ?_
            refine zz_iadd 48 X.1 (v := (nI ((64 * jj) + 63))) dX0_lastGapUpTo_48 (nI_add _ _) ?_
            refine zz_lload_n 49 X.1 0 dX0_lastGapUpTo_49 rfl ?_
            refine zz_callS0i 50 ⟨X.1.1, X.1.2, hml, X.2.2.1, X.2.1⟩ (fun q h => Or.inr h) DP_keep (As := [.long (wd (pC (fun i => !hM hs s0 i) 0 m0) jj)]) (kt_J13_numberOfLeadingZeros_95d88 l (wd (pC (fun i => !hM hs s0 i) 0 m0) jj) tt (ht1) (ht2) (ht3)) gX0_lastGapUpTo_J13_numberOfLeadingZeros_95d88 rfl ⟨rfl, rfl⟩ yd_J13_numberOfLeadingZeros_95d88.2 ⟨Nat.le_of_ble_eq_true rfl, Nat.le_of_ble_eq_true rfl⟩ rfl rfl (Nat.le_of_ble_eq_true rfl) ⟨Nat.zero_le _, Nat.zero_le _⟩ dX0_lastGapUpTo_50 ?_
            intro r2 hu2
            obtain rfl := hu2
            refine zz_isub 53 X.1 (v := (nI (((64 * jj) + 63) - (63 - tt)))) dX0_lastGapUpTo_53 (pk_sub (by omega)) ?_
            rw [← hQ]
            refine zz_iret 54 X.1 hr rfl hlk (F, hs, G, T) ?_ (fun _ h _ => h) dX0_lastGapUpTo_54
            refine ⟨?_, rfl⟩
            unfold pmv
            rw [if_neg (by omega)]
            exact ln_hit (q := fun i => !hM hs s0 i) ht1 ht4 ht5 hz
    refine zz_lvs [1, 2, 0] rfl ?_
    exact C12 (16 + 1) 16 (nI 15) (by omega) (by rfl) (fun i h1 h2 => by omega) (Nat.lt_succ_self _)
  · skip
    refine zz_iload_n 7 X.1 1 dX0_lastGapUpTo_7 rfl ?_
    rw [← hQ]
    refine zz_iret 8 X.1 hr rfl hlk (F, hs, G, T) ?_ (fun _ h _ => h) dX0_lastGapUpTo_8
    refine ⟨?_, rfl⟩
    unfold pmv
    rw [if_pos (by omega)]
    obtain ⟨jj, rfl⟩ : ∃ jj, m0 = jj + 1 := ⟨m0 - 1, by omega⟩
    rw [nI_pred]
    exact zi_of (by omega)
abbrev rm_X0_memberInPlace : Room := { frames := 4, cells := 0, slots := 0, locals := 90 }
theorem yd_X0_memberInPlace : yX0_memberInPlace.cls = RX0 ∧ yX0_memberInPlace.cls ≠ "java/lang/invoke/MethodHandle" ∧ yX0_memberInPlace.cls ≠ "java/lang/invoke/VarHandle" ∧ (parseMethodDescriptor yX0_memberInPlace.desc).map (fun d => d.parameters.length) = some 1 := by decide +kernel
set_option maxHeartbeats 4000000 in
set_option maxRecDepth 100000 in
theorem kt_X0_memberInPlace (l : Launch) (D : va_G) (C : Nat → ClassId) (K : Nat → Nat) (hAp : DAp K) (F : Nat → Int32) (hs : Nat → Bool) (G T : Nat → Nat → Int32) (s0 : Nat) (x1 : Int32) (b : Int) (h_b : x1.toInt = b) (hs0 : s0 < 8) : CMi l yX0_memberInPlace wsX0_memberInPlace rm_X0_memberInPlace D C K (20 + s0) [.int x1] F hs G T (fun (r : Int32) (u : CSt) => r = (mA (hM hs s0) b) ∧ u = (F, hs, G, T)) := by
  refine CMi_of (lv := [(0, .ref (K (20 + s0))), (1, .int x1)]) (cc := cX0_memberInPlace) (maxL := 5) (ret := (some .int)) rfl (by decide +kernel) (Nat.le_of_ble_eq_true rfl) rfl ?_
  intro p e s m args below meth c X hml hr hlk
  generalize hQ : MQ below _ args s 0 0 _ = Q
  refine zz_iconst 0 X.1 (v := nI 0) dX0_memberInPlace_0 rfl ?_
  refine zz_istore_n 1 X.1 (lv' := [(2, .int (nI 0)), (0, .ref (K (20 + s0))), (1, .int x1)]) dX0_memberInPlace_1 (by decide) rfl ?_
  refine zz_aload_n 2 X.1 1 dX0_memberInPlace_2 rfl ?_
  refine dd_callVi 3 X hml (th := 20 + s0) (As := []) (kt_X0_end l D C K hAp F hs G T s0 (by first | rfl | assumption | omega)) gX0_memberInPlace_X0_end rfl ⟨rfl, rfl⟩ (dr_M X (i := s0) (by omega)) yd_X0_end ⟨Nat.le_of_ble_eq_true rfl, Nat.le_of_ble_eq_true rfl⟩ rfl rfl (Nat.le_of_ble_eq_true rfl) ⟨Nat.zero_le _, Nat.zero_le _⟩ dX0_memberInPlace_3 ?_
  rintro r1 ⟨F1, hs1, G1, T1⟩ hu1
  obtain ⟨rfl, hv1⟩ := hu1
  cases hv1
  refine zz_world (P' := (DP D C K F (WH hs) G T)) (fun _ h => h) ?_
  have hl := ln_le (hM hs s0) 1024
  refine zz_istore_n 6 X.1 (lv' := [(3, .int (nI (ln (hM hs s0) 1024))), (2, .int (nI 0)), (0, .ref (K (20 + s0))), (1, .int x1)]) dX0_memberInPlace_6 (by decide) rfl ?_
  refine zz_iconst 7 X.1 (v := nI 0) dX0_memberInPlace_7 rfl ?_
  refine zz_istore 8 X.1 (lv' := [(4, .int (nI 0)), (3, .int (nI (ln (hM hs s0) 1024))), (2, .int (nI 0)), (0, .ref (K (20 + s0))), (1, .int x1)]) dX0_memberInPlace_8 (by decide) rfl ?_
  have C10 : ∀ (d : Nat) (i : Nat) (n2 : Nat) (hi : i ≤ ln (hM hs s0) 1024) (hn : n2 = ct (hM hs s0) i) (hz : ∀ k, k < i → (hM hs s0 k && decide ((ct (hM hs s0) k : Int) = b)) = false) (hd : ln (hM hs s0) 1024 - i < d), ZZ p l e rm_X0_memberInPlace s m args below meth c 0 0 Q (zz_A (DAd K) s.heap.size) (DP D C K F (WH hs) G T) 5 [(0, .ref (K (20 + s0))), (1, .int x1), (2, .int (nI n2)), (3, .int (nI (ln (hM hs s0) 1024))), (4, .int (nI i))] [] 10 := by
    intro d
    induction d with
    | zero => intro i n2 hi hn hz hd; exact absurd hd (Nat.not_lt_zero _)
    | succ d ih10 =>
      intro i n2 hi hn hz hd
      have hcl := ct_le (hM hs s0) i
      refine zz_iload 10 X.1 4 dX0_memberInPlace_10 rfl ?_
      refine zz_iload_n 12 X.1 3 dX0_memberInPlace_12 rfl ?_
      refine zz_icmp_ge 13 42 X.1 (nI_toInt (by omega)) (nI_toInt (by omega)) dX0_memberInPlace_13 (by decide) (fun h13 => ?_) (fun h13 => ?_)
      · skip
        refine zz_iconst 42 X.1 (v := (-1)) dX0_memberInPlace_42 (by decide) ?_
        rw [← hQ]
        refine zz_iret 43 X.1 hr rfl hlk (F, hs, G, T) ?_ (fun _ h _ => h) dX0_memberInPlace_43
        refine ⟨(nx_no (fun k _ h => ?_)).symm, rfl⟩
        rcases Nat.lt_or_ge k i with z | z
        · exact hz k z
        · rw [ln_ge (q := hM hs s0) (n := 1024) (i := k) (by omega) h]; rfl
      · skip
        refine zz_aload_n 16 X.1 0 dX0_memberInPlace_16 rfl ?_
        refine zz_iload 17 X.1 4 dX0_memberInPlace_17 rfl ?_
        refine dd_callVi 19 X hml (th := 20 + s0) (As := [.int (nI i)]) (kt_X0_holds l D C K hAp F hs G T s0 (nI i) ((i : Nat) : Int) (nI_toInt (by omega)) (by first | rfl | assumption | omega)) gX0_memberInPlace_X0_holds rfl ⟨rfl, rfl⟩ (dr_M X (i := s0) (by omega)) yd_X0_holds ⟨Nat.le_of_ble_eq_true rfl, Nat.le_of_ble_eq_true rfl⟩ rfl rfl (Nat.le_of_ble_eq_true rfl) ⟨Nat.zero_le _, Nat.zero_le _⟩ dX0_memberInPlace_19 ?_
        rintro r2 ⟨F2, hs2, G2, T2⟩ hu2
        obtain ⟨rfl, hv2⟩ := hu2
        cases hv2
        refine zz_world (P' := (DP D C K F (WH hs) G T)) (fun _ h => h) ?_
        refine zz_ifB_eq 22 36 X.1 dX0_memberInPlace_22 (by decide) (fun h22 => ?_) (fun h22 => ?_)
        · skip
          refine zz_iinc 36 X.1 4 (v := (nI (i + 1))) (lv' := [(4, .int (nI (i + 1))), (0, .ref (K (20 + s0))), (1, .int x1), (2, .int (nI n2)), (3, .int (nI (ln (hM hs s0) 1024)))]) dX0_memberInPlace_36 rfl (nI_add i 1) (by decide) rfl ?_
          refine zz_goto 39 10 X.1 dX0_memberInPlace_39 (by decide) ?_
          refine zz_lvs [1, 2, 3, 4, 0] rfl ?_
          exact ih10 (i + 1) n2 (by omega) (by rw [hn]; first | exact ct_t ((hz_lt (by omega)).symm.trans h22) | exact ct_f ((hz_lt (by omega)).symm.trans h22)) (fun k h => by rcases Nat.lt_or_ge k i with z | z; exact hz k z; rw [show k = i by omega]; first | (rw [(hz_lt (by omega)).symm.trans h22]; rfl) | (rw [decide_eq_false (by omega)]; simp)) (by omega)
        · skip
          refine zz_iload_n 25 X.1 2 dX0_memberInPlace_25 rfl ?_
          refine zz_iload_n 26 X.1 1 dX0_memberInPlace_26 rfl ?_
          refine zz_icmp_ne 27 33 X.1 (nI_toInt (by omega)) h_b dX0_memberInPlace_27 (by decide) (fun h27 => ?_) (fun h27 => ?_)
          · skip
            refine zz_iinc 33 X.1 2 (v := (nI (n2 + 1))) (lv' := [(2, .int (nI (n2 + 1))), (0, .ref (K (20 + s0))), (1, .int x1), (3, .int (nI (ln (hM hs s0) 1024))), (4, .int (nI i))]) dX0_memberInPlace_33 rfl (nI_add n2 1) (by decide) rfl ?_
            refine zz_iinc 36 X.1 4 (v := (nI (i + 1))) (lv' := [(4, .int (nI (i + 1))), (2, .int (nI (n2 + 1))), (0, .ref (K (20 + s0))), (1, .int x1), (3, .int (nI (ln (hM hs s0) 1024)))]) dX0_memberInPlace_36 rfl (nI_add i 1) (by decide) rfl ?_
            refine zz_goto 39 10 X.1 dX0_memberInPlace_39 (by decide) ?_
            refine zz_lvs [2, 3, 1, 4, 0] rfl ?_
            exact ih10 (i + 1) (n2 + 1) (by omega) (by rw [hn]; first | exact ct_t ((hz_lt (by omega)).symm.trans h22) | exact ct_f ((hz_lt (by omega)).symm.trans h22)) (fun k h => by rcases Nat.lt_or_ge k i with z | z; exact hz k z; rw [show k = i by omega]; first | (rw [(hz_lt (by omega)).symm.trans h22]; rfl) | (rw [decide_eq_false (by omega)]; simp)) (by omega)
          · skip
            refine zz_iload 30 X.1 4 dX0_memberInPlace_30 rfl ?_
            rw [← hQ]
            refine zz_iret 32 X.1 hr rfl hlk (F, hs, G, T) ?_ (fun _ h _ => h) dX0_memberInPlace_32
            exact ⟨(nx_at (q := fun j => hM hs s0 j && decide ((ct (hM hs s0) j : Int) = b)) (by simp [show hM hs s0 i = true from (hz_lt (by omega)).symm.trans h22, show (ct (hM hs s0) i : Int) = b by omega]) (Nat.zero_le _) (by omega) (fun k _ h => hz k h)).symm, rfl⟩
  refine zz_lvs [3, 4, 2, 1, 0] rfl ?_
  exact C10 (ln (hM hs s0) 1024 - 0 + 1) 0 0 (by omega) (rfl) (fun k h => by omega) (Nat.lt_succ_self _)
abbrev rm_X0_total : Room := { frames := 4, cells := 0, slots := 0, locals := 90 }
theorem yd_X0_total : yX0_total.cls = RX0 ∧ yX0_total.cls ≠ "java/lang/invoke/MethodHandle" ∧ yX0_total.cls ≠ "java/lang/invoke/VarHandle" ∧ (parseMethodDescriptor yX0_total.desc).map (fun d => d.parameters.length) = some 0 := by decide +kernel
set_option maxHeartbeats 4000000 in
set_option maxRecDepth 100000 in
theorem kt_X0_total (l : Launch) (D : va_G) (C : Nat → ClassId) (K : Nat → Nat) (hAp : DAp K) (F : Nat → Int32) (hs : Nat → Bool) (G T : Nat → Nat → Int32) (s0 : Nat) (hs0 : s0 < 8) : CMl l yX0_total wsX0_total rm_X0_total D C K (20 + s0) [] F hs G T (fun (r : Int64) (u : CSt) => r = (lN (su (hM hs s0) 1024)) ∧ u = (F, hs, G, T)) := by
  refine CMl_of (lv := [(0, .ref (K (20 + s0)))]) (cc := cX0_total) (maxL := 5) (ret := (some .long)) rfl (by decide +kernel) (Nat.le_of_ble_eq_true rfl) rfl ?_
  intro p e s m args below meth c X hml hr hlk
  generalize hQ : MQ below _ args s 0 0 _ = Q
  refine zz_lconst 0 X.1 (v := 0) dX0_total_0 (by decide) ?_
  refine zz_lstore_n 1 X.1 (lv' := [(1, .long 0), (0, .ref (K (20 + s0)))]) dX0_total_1 (by decide) rfl ?_
  refine zz_aload_n 2 X.1 1 dX0_total_2 rfl ?_
  refine dd_callVi 3 X hml (th := 20 + s0) (As := []) (kt_X0_end l D C K hAp F hs G T s0 (by first | rfl | assumption | omega)) gX0_total_X0_end rfl ⟨rfl, rfl⟩ (dr_M X (i := s0) (by omega)) yd_X0_end ⟨Nat.le_of_ble_eq_true rfl, Nat.le_of_ble_eq_true rfl⟩ rfl rfl (Nat.le_of_ble_eq_true rfl) ⟨Nat.zero_le _, Nat.zero_le _⟩ dX0_total_3 ?_
  rintro r1 ⟨F1, hs1, G1, T1⟩ hu1
  obtain ⟨rfl, hv1⟩ := hu1
  cases hv1
  refine zz_world (P' := (DP D C K F (WH hs) G T)) (fun _ h => h) ?_
  have hl := ln_le (hM hs s0) 1024
  refine zz_istore_n 6 X.1 (lv' := [(3, .int (nI (ln (hM hs s0) 1024))), (1, .long 0), (0, .ref (K (20 + s0)))]) dX0_total_6 (by decide) rfl ?_
  refine zz_iconst 7 X.1 (v := nI 0) dX0_total_7 rfl ?_
  refine zz_istore 8 X.1 (lv' := [(4, .int (nI 0)), (3, .int (nI (ln (hM hs s0) 1024))), (1, .long 0), (0, .ref (K (20 + s0)))]) dX0_total_8 (by decide) rfl ?_
  have C10 : ∀ (d : Nat) (i : Nat) (n2 : Nat) (hi : i ≤ ln (hM hs s0) 1024) (hn : n2 = su (hM hs s0) i) (hd : ln (hM hs s0) 1024 - i < d), ZZ p l e rm_X0_total s m args below meth c 0 0 Q (zz_A (DAd K) s.heap.size) (DP D C K F (WH hs) G T) 5 [(0, .ref (K (20 + s0))), (1, .long (lN n2)), (3, .int (nI (ln (hM hs s0) 1024))), (4, .int (nI i))] [] 10 := by
    intro d
    induction d with
    | zero => intro i n2 hi hn hd; exact absurd hd (Nat.not_lt_zero _)
    | succ d ih10 =>
      intro i n2 hi hn hd
      refine zz_iload 10 X.1 3 dX0_total_10 rfl ?_
      refine zz_iload_n 12 X.1 2 dX0_total_12 rfl ?_
      refine zz_icmp_ge 13 37 X.1 (nI_toInt (by omega)) (nI_toInt (by omega)) dX0_total_13 (by decide) (fun h13 => ?_) (fun h13 => ?_)
      · skip
        refine zz_lload_n 37 X.1 1 dX0_total_37 rfl ?_
        rw [← hQ]
        refine zz_lret 38 X.1 hr hlk (F, hs, G, T) ?_ (fun _ h _ => h) dX0_total_38
        exact ⟨by rw [hn, show i = ln (hM hs s0) 1024 by omega, su_ln], rfl⟩
      · skip
        refine zz_aload_n 16 X.1 0 dX0_total_16 rfl ?_
        refine zz_iload 17 X.1 3 dX0_total_17 rfl ?_
        refine dd_callVi 19 X hml (th := 20 + s0) (As := [.int (nI i)]) (kt_X0_holds l D C K hAp F hs G T s0 (nI i) ((i : Nat) : Int) (nI_toInt (by omega)) (by first | rfl | assumption | omega)) gX0_total_X0_holds rfl ⟨rfl, rfl⟩ (dr_M X (i := s0) (by omega)) yd_X0_holds ⟨Nat.le_of_ble_eq_true rfl, Nat.le_of_ble_eq_true rfl⟩ rfl rfl (Nat.le_of_ble_eq_true rfl) ⟨Nat.zero_le _, Nat.zero_le _⟩ dX0_total_19 ?_
        rintro r2 ⟨F2, hs2, G2, T2⟩ hu2
        obtain ⟨rfl, hv2⟩ := hu2
        cases hv2
        refine zz_world (P' := (DP D C K F (WH hs) G T)) (fun _ h => h) ?_
        refine zz_ifB_eq 22 31 X.1 dX0_total_22 (by decide) (fun h22 => ?_) (fun h22 => ?_)
        · skip
          refine zz_iinc 31 X.1 3 (v := (nI (i + 1))) (lv' := [(4, .int (nI (i + 1))), (0, .ref (K (20 + s0))), (1, .long (lN n2)), (3, .int (nI (ln (hM hs s0) 1024)))]) dX0_total_31 rfl (nI_add i 1) (by decide) rfl ?_
          refine zz_goto 34 10 X.1 dX0_total_34 (by decide) ?_
          refine zz_lvs [1, 2, 3, 0] rfl ?_
          exact ih10 (i + 1) n2 (by omega) (by rw [hn, su, (hz_lt (by omega)).symm.trans h22]; rfl) (by omega)
        · skip
          refine zz_lload_n 25 X.1 1 dX0_total_25 rfl ?_
          refine zz_iload 26 X.1 3 dX0_total_26 rfl ?_
          refine zz_i2l 28 X.1 (v := lN i) dX0_total_28 (nI_l (by omega)) ?_
          refine zz_ladd 29 X.1 (v := lN (n2 + i)) dX0_total_29 (lN_add _ _) ?_
          refine zz_lstore_n 30 X.1 (lv' := [(1, .long (lN (n2 + i))), (0, .ref (K (20 + s0))), (3, .int (nI (ln (hM hs s0) 1024))), (4, .int (nI i))]) dX0_total_30 (by decide) rfl ?_
          refine zz_iinc 31 X.1 3 (v := (nI (i + 1))) (lv' := [(4, .int (nI (i + 1))), (1, .long (lN (n2 + i))), (0, .ref (K (20 + s0))), (3, .int (nI (ln (hM hs s0) 1024)))]) dX0_total_31 rfl (nI_add i 1) (by decide) rfl ?_
          refine zz_goto 34 10 X.1 dX0_total_34 (by decide) ?_
          refine zz_lvs [2, 1, 3, 0] rfl ?_
          exact ih10 (i + 1) (n2 + i) (by omega) (by rw [hn, su, (hz_lt (by omega)).symm.trans h22]; rfl) (by omega)
  refine zz_lvs [3, 2, 1, 0] rfl ?_
  exact C10 (ln (hM hs s0) 1024 - 0 + 1) 0 0 (by omega) (rfl) (Nat.lt_succ_self _)
abbrev rm_X0_rows : Room := { frames := 4, cells := 0, slots := 0, locals := 90 }
theorem yd_X0_rows : yX0_rows.cls = RX0 ∧ yX0_rows.cls ≠ "java/lang/invoke/MethodHandle" ∧ yX0_rows.cls ≠ "java/lang/invoke/VarHandle" ∧ (parseMethodDescriptor yX0_rows.desc).map (fun d => d.parameters.length) = some 0 := by decide +kernel
set_option maxHeartbeats 4000000 in
set_option maxRecDepth 100000 in
theorem kt_X0_rows (l : Launch) (D : va_G) (C : Nat → ClassId) (K : Nat → Nat) (hAp : DAp K) (F : Nat → Int32) (hs : Nat → Bool) (G T : Nat → Nat → Int32) (s0 : Nat) (hs0 : s0 < 8) : CMi l yX0_rows wsX0_rows rm_X0_rows D C K (20 + s0) [] F hs G T (fun (r : Int32) (u : CSt) => r = (nI (ct (bg (hM hs s0)) 1024)) ∧ u = (F, hs, G, T)) := by
  refine CMi_of (lv := [(0, .ref (K (20 + s0)))]) (cc := cX0_rows) (maxL := 4) (ret := (some .int)) rfl (by decide +kernel) (Nat.le_of_ble_eq_true rfl) rfl ?_
  intro p e s m args below meth c X hml hr hlk
  generalize hQ : MQ below _ args s 0 0 _ = Q
  refine zz_iconst 0 X.1 (v := nI 0) dX0_rows_0 rfl ?_
  refine zz_istore_n 1 X.1 (lv' := [(1, .int (nI 0)), (0, .ref (K (20 + s0)))]) dX0_rows_1 (by decide) rfl ?_
  refine zz_aload_n 2 X.1 1 dX0_rows_2 rfl ?_
  refine dd_callVi 3 X hml (th := 20 + s0) (As := []) (kt_X0_end l D C K hAp F hs G T s0 (by first | rfl | assumption | omega)) gX0_rows_X0_end rfl ⟨rfl, rfl⟩ (dr_M X (i := s0) (by omega)) yd_X0_end ⟨Nat.le_of_ble_eq_true rfl, Nat.le_of_ble_eq_true rfl⟩ rfl rfl (Nat.le_of_ble_eq_true rfl) ⟨Nat.zero_le _, Nat.zero_le _⟩ dX0_rows_3 ?_
  rintro r1 ⟨F1, hs1, G1, T1⟩ hu1
  obtain ⟨rfl, hv1⟩ := hu1
  cases hv1
  refine zz_world (P' := (DP D C K F (WH hs) G T)) (fun _ h => h) ?_
  have hl := ln_le (hM hs s0) 1024
  refine zz_istore_n 6 X.1 (lv' := [(2, .int (nI (ln (hM hs s0) 1024))), (1, .int (nI 0)), (0, .ref (K (20 + s0)))]) dX0_rows_6 (by decide) rfl ?_
  refine zz_iconst 7 X.1 (v := nI 0) dX0_rows_7 rfl ?_
  refine zz_istore_n 8 X.1 (lv' := [(3, .int (nI 0)), (2, .int (nI (ln (hM hs s0) 1024))), (1, .int (nI 0)), (0, .ref (K (20 + s0)))]) dX0_rows_8 (by decide) rfl ?_
  have C9 : ∀ (d : Nat) (i : Nat) (n2 : Nat) (hi : i ≤ ln (hM hs s0) 1024) (hn : n2 = ct (bg (hM hs s0)) i) (hd : ln (hM hs s0) 1024 - i < d), ZZ p l e rm_X0_rows s m args below meth c 0 0 Q (zz_A (DAd K) s.heap.size) (DP D C K F (WH hs) G T) 4 [(0, .ref (K (20 + s0))), (1, .int (nI n2)), (2, .int (nI (ln (hM hs s0) 1024))), (3, .int (nI i))] [] 9 := by
    intro d
    induction d with
    | zero => intro i n2 hi hn hd; exact absurd hd (Nat.not_lt_zero _)
    | succ d ih9 =>
      intro i n2 hi hn hd
      refine zz_iload_n 9 X.1 3 dX0_rows_9 rfl ?_
      refine zz_iload_n 10 X.1 2 dX0_rows_10 rfl ?_
      refine zz_icmp_ge 11 41 X.1 (nI_toInt (by omega)) (nI_toInt (by omega)) dX0_rows_11 (by decide) (fun h11 => ?_) (fun h11 => ?_)
      · skip
        refine zz_iload_n 41 X.1 1 dX0_rows_41 rfl ?_
        rw [← hQ]
        refine zz_iret 42 X.1 hr rfl hlk (F, hs, G, T) ?_ (fun _ h _ => h) dX0_rows_42
        exact ⟨by rw [hn, show i = ln (hM hs s0) 1024 by omega, ct_ln (fun i => bg_f)], rfl⟩
      · skip
        refine zz_aload_n 14 X.1 0 dX0_rows_14 rfl ?_
        refine zz_iload_n 15 X.1 3 dX0_rows_15 rfl ?_
        refine dd_callVi 16 X hml (th := 20 + s0) (As := [.int (nI i)]) (kt_X0_holds l D C K hAp F hs G T s0 (nI i) ((i : Nat) : Int) (nI_toInt (by omega)) (by first | rfl | assumption | omega)) gX0_rows_X0_holds rfl ⟨rfl, rfl⟩ (dr_M X (i := s0) (by omega)) yd_X0_holds ⟨Nat.le_of_ble_eq_true rfl, Nat.le_of_ble_eq_true rfl⟩ rfl rfl (Nat.le_of_ble_eq_true rfl) ⟨Nat.zero_le _, Nat.zero_le _⟩ dX0_rows_16 ?_
        rintro r2 ⟨F2, hs2, G2, T2⟩ hu2
        obtain ⟨rfl, hv2⟩ := hu2
        cases hv2
        refine zz_world (P' := (DP D C K F (WH hs) G T)) (fun _ h => h) ?_
        refine zz_ifB_eq 19 35 X.1 dX0_rows_19 (by decide) (fun h19 => ?_) (fun h19 => ?_)
        · skip
          refine zz_iinc 35 X.1 3 (v := (nI (i + 1))) (lv' := [(3, .int (nI (i + 1))), (0, .ref (K (20 + s0))), (1, .int (nI n2)), (2, .int (nI (ln (hM hs s0) 1024)))]) dX0_rows_35 rfl (nI_add i 1) (by decide) rfl ?_
          refine zz_goto 38 9 X.1 dX0_rows_38 (by decide) ?_
          refine zz_lvs [1, 2, 3, 0] rfl ?_
          exact ih9 (i + 1) n2 (by omega) (by rw [hn]; first | exact ct_t (by rw [bg_hz (by omega), (hz_lt (by omega)).symm.trans h19, h29]; rfl) | exact ct_f (by rw [bg_hz (by omega), (hz_lt (by omega)).symm.trans h19, h29]; rfl) | exact ct_f (bg_f ((hz_lt (by omega)).symm.trans h19))) (by omega)
        · skip
          refine zz_aload_n 22 X.1 0 dX0_rows_22 rfl ?_
          refine zz_iload_n 23 X.1 3 dX0_rows_23 rfl ?_
          refine zz_iconst 24 X.1 (v := nI 1) dX0_rows_24 rfl ?_
          refine zz_isub 25 X.1 (v := (nI i - nI 1)) dX0_rows_25 rfl ?_
          refine dd_callVi 26 X hml (th := 20 + s0) (As := [.int (nI i - nI 1)]) (kt_X0_holds l D C K hAp F hs G T s0 (nI i - nI 1) (((i : Nat) : Int) - ((1 : Nat) : Int)) ((zi_subN (by omega) (by omega))) (by first | rfl | assumption | omega)) gX0_rows_X0_holds rfl ⟨rfl, rfl⟩ (dr_M X (i := s0) (by omega)) yd_X0_holds ⟨Nat.le_of_ble_eq_true rfl, Nat.le_of_ble_eq_true rfl⟩ rfl rfl (Nat.le_of_ble_eq_true rfl) ⟨Nat.zero_le _, Nat.zero_le _⟩ dX0_rows_26 ?_
          rintro r3 ⟨F3, hs3, G3, T3⟩ hu3
          obtain ⟨rfl, hv3⟩ := hu3
          cases hv3
          refine zz_world (P' := (DP D C K F (WH hs) G T)) (fun _ h => h) ?_
          refine zz_ifB_ne 29 35 X.1 dX0_rows_29 (by decide) (fun h29 => ?_) (fun h29 => ?_)
          · skip
            refine zz_iinc 35 X.1 3 (v := (nI (i + 1))) (lv' := [(3, .int (nI (i + 1))), (0, .ref (K (20 + s0))), (1, .int (nI n2)), (2, .int (nI (ln (hM hs s0) 1024)))]) dX0_rows_35 rfl (nI_add i 1) (by decide) rfl ?_
            refine zz_goto 38 9 X.1 dX0_rows_38 (by decide) ?_
            refine zz_lvs [1, 2, 3, 0] rfl ?_
            exact ih9 (i + 1) n2 (by omega) (by rw [hn]; first | exact ct_t (by rw [bg_hz (by omega), (hz_lt (by omega)).symm.trans h19, h29]; rfl) | exact ct_f (by rw [bg_hz (by omega), (hz_lt (by omega)).symm.trans h19, h29]; rfl) | exact ct_f (bg_f ((hz_lt (by omega)).symm.trans h19))) (by omega)
          · skip
            refine zz_iinc 32 X.1 1 (v := (nI (n2 + 1))) (lv' := [(1, .int (nI (n2 + 1))), (0, .ref (K (20 + s0))), (2, .int (nI (ln (hM hs s0) 1024))), (3, .int (nI i))]) dX0_rows_32 rfl (nI_add n2 1) (by decide) rfl ?_
            refine zz_iinc 35 X.1 3 (v := (nI (i + 1))) (lv' := [(3, .int (nI (i + 1))), (1, .int (nI (n2 + 1))), (0, .ref (K (20 + s0))), (2, .int (nI (ln (hM hs s0) 1024)))]) dX0_rows_35 rfl (nI_add i 1) (by decide) rfl ?_
            refine zz_goto 38 9 X.1 dX0_rows_38 (by decide) ?_
            refine zz_lvs [2, 1, 3, 0] rfl ?_
            exact ih9 (i + 1) (n2 + 1) (by omega) (by rw [hn]; first | exact ct_t (by rw [bg_hz (by omega), (hz_lt (by omega)).symm.trans h19, h29]; rfl) | exact ct_f (by rw [bg_hz (by omega), (hz_lt (by omega)).symm.trans h19, h29]; rfl) | exact ct_f (bg_f ((hz_lt (by omega)).symm.trans h19))) (by omega)
  refine zz_lvs [3, 2, 1, 0] rfl ?_
  exact C9 (ln (hM hs s0) 1024 - 0 + 1) 0 0 (by omega) (rfl) (Nat.lt_succ_self _)
abbrev rm_X0_longestRow : Room := { frames := 4, cells := 0, slots := 0, locals := 90 }
abbrev rm_X0_sizeOfCommon : Room := { frames := 1, cells := 0, slots := 0, locals := 21 }
theorem yd_X0_sizeOfCommon : yX0_sizeOfCommon.cls = RX0 ∧ yX0_sizeOfCommon.cls ≠ "java/lang/invoke/MethodHandle" ∧ yX0_sizeOfCommon.cls ≠ "java/lang/invoke/VarHandle" ∧ (parseMethodDescriptor yX0_sizeOfCommon.desc).map (fun d => d.parameters.length) = some 1 := by decide +kernel
set_option maxHeartbeats 4000000 in
set_option maxRecDepth 100000 in
theorem kt_X0_sizeOfCommon (l : Launch) (D : va_G) (C : Nat → ClassId) (K : Nat → Nat) (hAp : DAp K) (F : Nat → Int32) (hs : Nat → Bool) (G T : Nat → Nat → Int32) (s0 : Nat) (o0 : Nat) (hs0 : s0 < 8) (ho0 : o0 < 8) : CMi l yX0_sizeOfCommon wsX0_sizeOfCommon rm_X0_sizeOfCommon D C K (20 + s0) [.ref (K (20 + o0))] F hs G T (fun (r : Int32) (u : CSt) => r = (nI (ct (fun i => hM hs s0 i && hM hs o0 i) 1024)) ∧ u = (F, hs, G, T)) := by
  refine CMi_of (lv := [(0, .ref (K (20 + s0))), (1, .ref (K (20 + o0)))]) (cc := cX0_sizeOfCommon) (maxL := 4) (ret := (some .int)) rfl (by decide +kernel) (Nat.le_of_ble_eq_true rfl) rfl ?_
  intro p e s m args below meth c X hml hr hlk
  generalize hQ : MQ below _ args s 0 0 _ = Q
  refine zz_iconst 0 X.1 (v := nI 0) dX0_sizeOfCommon_0 rfl ?_
  refine zz_istore_n 1 X.1 (lv' := [(2, .int (nI 0)), (0, .ref (K (20 + s0))), (1, .ref (K (20 + o0)))]) dX0_sizeOfCommon_1 (by decide) rfl ?_
  refine zz_iconst 2 X.1 (v := nI 0) dX0_sizeOfCommon_2 rfl ?_
  refine zz_istore_n 3 X.1 (lv' := [(3, .int (nI 0)), (2, .int (nI 0)), (0, .ref (K (20 + s0))), (1, .ref (K (20 + o0)))]) dX0_sizeOfCommon_3 (by decide) rfl ?_
  have C4 : ∀ (d : Nat) (k : Nat) (n2 : Nat) (hk : k ≤ 16) (hn : n2 = ct (fun i => hM hs s0 i && hM hs o0 i) (64 * k)) (hd : 16 - k < d), ZZ p l e rm_X0_sizeOfCommon s m args below meth c 0 0 Q (zz_A (DAd K) s.heap.size) (DP D C K F (WH hs) G T) 4 [(0, .ref (K (20 + s0))), (1, .ref (K (20 + o0))), (2, .int (nI n2)), (3, .int (nI k))] [] 4 := by
    intro d
    induction d with
    | zero => intro k n2 hk hn hd; exact absurd hd (Nat.not_lt_zero _)
    | succ d ih4 =>
      intro k n2 hk hn hd
      refine zz_iload_n 4 X.1 3 dX0_sizeOfCommon_4 rfl ?_
      refine zz_bipush 5 X.1 (v := nI 16) dX0_sizeOfCommon_5 rfl ?_
      refine zz_icmp_ge 7 35 X.1 (nI_toInt (by omega)) (nI_toInt (by omega)) dX0_sizeOfCommon_7 (by decide) (fun h7 => ?_) (fun h7 => ?_)
      · skip
        refine zz_iload_n 35 X.1 2 dX0_sizeOfCommon_35 rfl ?_
        rw [← hQ]
        refine zz_iret 36 X.1 hr rfl hlk (F, hs, G, T) ?_ (fun _ h _ => h) dX0_sizeOfCommon_36
        exact ⟨by rw [hn, show 64 * k = 1024 by omega], rfl⟩
      · skip
        refine zz_iload_n 10 X.1 2 dX0_sizeOfCommon_10 rfl ?_
        refine zz_aload_n 11 X.1 0 dX0_sizeOfCommon_11 rfl ?_
        refine dd_getM 12 X (by decide +kernel) (i := s0) (by omega) (by decide +kernel) dX0_sizeOfCommon_12 ?_
        refine zz_iload_n 15 X.1 3 dX0_sizeOfCommon_15 rfl ?_
        refine dd_lld 16 X (i := s0) (k := k) (by omega) (by omega) dX0_sizeOfCommon_16 ?_
        refine zz_aload_n 17 X.1 1 dX0_sizeOfCommon_17 rfl ?_
        refine dd_getM 18 X (by decide +kernel) (i := o0) (by omega) (by decide +kernel) dX0_sizeOfCommon_18 ?_
        refine zz_iload_n 21 X.1 3 dX0_sizeOfCommon_21 rfl ?_
        refine dd_lld 22 X (i := o0) (k := k) (by omega) (by omega) dX0_sizeOfCommon_22 ?_
        refine zz_land 23 X.1 (v := wd (fun i => hM hs s0 i && hM hs o0 i) k) dX0_sizeOfCommon_23 wd_and ?_
        refine zz_callS0i 24 ⟨X.1.1, X.1.2, hml, X.2.2.1, X.2.1⟩ (fun q h => Or.inr h) DP_keep (As := [.long (wd (fun i => hM hs s0 i && hM hs o0 i) k)]) (kt_J13_bitCount_95d88 l (wd (fun i => hM hs s0 i && hM hs o0 i) k) ) gX0_sizeOfCommon_J13_bitCount_95d88 rfl ⟨rfl, rfl⟩ yd_J13_bitCount_95d88.2 ⟨Nat.le_of_ble_eq_true rfl, Nat.le_of_ble_eq_true rfl⟩ rfl rfl (Nat.le_of_ble_eq_true rfl) ⟨Nat.zero_le _, Nat.zero_le _⟩ dX0_sizeOfCommon_24 ?_
        intro r1 hu1
        obtain rfl := hu1
        refine zz_iadd 27 X.1 (v := (nI (n2 + (ct (fun i => (wd (fun i => hM hs s0 i && hM hs o0 i) k).toBitVec.getLsbD i) 64)))) dX0_sizeOfCommon_27 (nI_add _ _) ?_
        refine zz_istore_n 28 X.1 (lv' := [(2, .int (nI (n2 + (ct (fun i => (wd (fun i => hM hs s0 i && hM hs o0 i) k).toBitVec.getLsbD i) 64)))), (0, .ref (K (20 + s0))), (1, .ref (K (20 + o0))), (3, .int (nI k))]) dX0_sizeOfCommon_28 (by decide) rfl ?_
        refine zz_iinc 29 X.1 3 (v := (nI (k + 1))) (lv' := [(3, .int (nI (k + 1))), (2, .int (nI (n2 + (ct (fun i => (wd (fun i => hM hs s0 i && hM hs o0 i) k).toBitVec.getLsbD i) 64)))), (0, .ref (K (20 + s0))), (1, .ref (K (20 + o0)))]) dX0_sizeOfCommon_29 rfl (nI_add k 1) (by decide) rfl ?_
        refine zz_goto 32 4 X.1 dX0_sizeOfCommon_32 (by decide) ?_
        refine zz_lvs [2, 3, 1, 0] rfl ?_
        exact ih4 (k + 1) (n2 + (ct (fun i => (wd (fun i => hM hs s0 i && hM hs o0 i) k).toBitVec.getLsbD i) 64)) (by omega) (by rw [hn]; exact ct_word) (by omega)
  refine zz_lvs [2, 3, 1, 0] rfl ?_
  exact C4 (16 - 0 + 1) 0 0 (by omega) (rfl) (Nat.lt_succ_self _)
abbrev rm_X0_sizeOfEither : Room := { frames := 1, cells := 0, slots := 0, locals := 21 }
theorem yd_X0_sizeOfEither : yX0_sizeOfEither.cls = RX0 ∧ yX0_sizeOfEither.cls ≠ "java/lang/invoke/MethodHandle" ∧ yX0_sizeOfEither.cls ≠ "java/lang/invoke/VarHandle" ∧ (parseMethodDescriptor yX0_sizeOfEither.desc).map (fun d => d.parameters.length) = some 1 := by decide +kernel
set_option maxHeartbeats 4000000 in
set_option maxRecDepth 100000 in
theorem kt_X0_sizeOfEither (l : Launch) (D : va_G) (C : Nat → ClassId) (K : Nat → Nat) (hAp : DAp K) (F : Nat → Int32) (hs : Nat → Bool) (G T : Nat → Nat → Int32) (s0 : Nat) (o0 : Nat) (hs0 : s0 < 8) (ho0 : o0 < 8) : CMi l yX0_sizeOfEither wsX0_sizeOfEither rm_X0_sizeOfEither D C K (20 + s0) [.ref (K (20 + o0))] F hs G T (fun (r : Int32) (u : CSt) => r = (nI (ct (fun i => hM hs s0 i || hM hs o0 i) 1024)) ∧ u = (F, hs, G, T)) := by
  refine CMi_of (lv := [(0, .ref (K (20 + s0))), (1, .ref (K (20 + o0)))]) (cc := cX0_sizeOfEither) (maxL := 4) (ret := (some .int)) rfl (by decide +kernel) (Nat.le_of_ble_eq_true rfl) rfl ?_
  intro p e s m args below meth c X hml hr hlk
  generalize hQ : MQ below _ args s 0 0 _ = Q
  refine zz_iconst 0 X.1 (v := nI 0) dX0_sizeOfEither_0 rfl ?_
  refine zz_istore_n 1 X.1 (lv' := [(2, .int (nI 0)), (0, .ref (K (20 + s0))), (1, .ref (K (20 + o0)))]) dX0_sizeOfEither_1 (by decide) rfl ?_
  refine zz_iconst 2 X.1 (v := nI 0) dX0_sizeOfEither_2 rfl ?_
  refine zz_istore_n 3 X.1 (lv' := [(3, .int (nI 0)), (2, .int (nI 0)), (0, .ref (K (20 + s0))), (1, .ref (K (20 + o0)))]) dX0_sizeOfEither_3 (by decide) rfl ?_
  have C4 : ∀ (d : Nat) (k : Nat) (n2 : Nat) (hk : k ≤ 16) (hn : n2 = ct (fun i => hM hs s0 i || hM hs o0 i) (64 * k)) (hd : 16 - k < d), ZZ p l e rm_X0_sizeOfEither s m args below meth c 0 0 Q (zz_A (DAd K) s.heap.size) (DP D C K F (WH hs) G T) 4 [(0, .ref (K (20 + s0))), (1, .ref (K (20 + o0))), (2, .int (nI n2)), (3, .int (nI k))] [] 4 := by
    intro d
    induction d with
    | zero => intro k n2 hk hn hd; exact absurd hd (Nat.not_lt_zero _)
    | succ d ih4 =>
      intro k n2 hk hn hd
      refine zz_iload_n 4 X.1 3 dX0_sizeOfEither_4 rfl ?_
      refine zz_bipush 5 X.1 (v := nI 16) dX0_sizeOfEither_5 rfl ?_
      refine zz_icmp_ge 7 35 X.1 (nI_toInt (by omega)) (nI_toInt (by omega)) dX0_sizeOfEither_7 (by decide) (fun h7 => ?_) (fun h7 => ?_)
      · skip
        refine zz_iload_n 35 X.1 2 dX0_sizeOfEither_35 rfl ?_
        rw [← hQ]
        refine zz_iret 36 X.1 hr rfl hlk (F, hs, G, T) ?_ (fun _ h _ => h) dX0_sizeOfEither_36
        exact ⟨by rw [hn, show 64 * k = 1024 by omega], rfl⟩
      · skip
        refine zz_iload_n 10 X.1 2 dX0_sizeOfEither_10 rfl ?_
        refine zz_aload_n 11 X.1 0 dX0_sizeOfEither_11 rfl ?_
        refine dd_getM 12 X (by decide +kernel) (i := s0) (by omega) (by decide +kernel) dX0_sizeOfEither_12 ?_
        refine zz_iload_n 15 X.1 3 dX0_sizeOfEither_15 rfl ?_
        refine dd_lld 16 X (i := s0) (k := k) (by omega) (by omega) dX0_sizeOfEither_16 ?_
        refine zz_aload_n 17 X.1 1 dX0_sizeOfEither_17 rfl ?_
        refine dd_getM 18 X (by decide +kernel) (i := o0) (by omega) (by decide +kernel) dX0_sizeOfEither_18 ?_
        refine zz_iload_n 21 X.1 3 dX0_sizeOfEither_21 rfl ?_
        refine dd_lld 22 X (i := o0) (k := k) (by omega) (by omega) dX0_sizeOfEither_22 ?_
        refine zz_lor 23 X.1 (v := wd (fun i => hM hs s0 i || hM hs o0 i) k) dX0_sizeOfEither_23 wd_or ?_
        refine zz_callS0i 24 ⟨X.1.1, X.1.2, hml, X.2.2.1, X.2.1⟩ (fun q h => Or.inr h) DP_keep (As := [.long (wd (fun i => hM hs s0 i || hM hs o0 i) k)]) (kt_J13_bitCount_95d88 l (wd (fun i => hM hs s0 i || hM hs o0 i) k) ) gX0_sizeOfEither_J13_bitCount_95d88 rfl ⟨rfl, rfl⟩ yd_J13_bitCount_95d88.2 ⟨Nat.le_of_ble_eq_true rfl, Nat.le_of_ble_eq_true rfl⟩ rfl rfl (Nat.le_of_ble_eq_true rfl) ⟨Nat.zero_le _, Nat.zero_le _⟩ dX0_sizeOfEither_24 ?_
        intro r1 hu1
        obtain rfl := hu1
        refine zz_iadd 27 X.1 (v := (nI (n2 + (ct (fun i => (wd (fun i => hM hs s0 i || hM hs o0 i) k).toBitVec.getLsbD i) 64)))) dX0_sizeOfEither_27 (nI_add _ _) ?_
        refine zz_istore_n 28 X.1 (lv' := [(2, .int (nI (n2 + (ct (fun i => (wd (fun i => hM hs s0 i || hM hs o0 i) k).toBitVec.getLsbD i) 64)))), (0, .ref (K (20 + s0))), (1, .ref (K (20 + o0))), (3, .int (nI k))]) dX0_sizeOfEither_28 (by decide) rfl ?_
        refine zz_iinc 29 X.1 3 (v := (nI (k + 1))) (lv' := [(3, .int (nI (k + 1))), (2, .int (nI (n2 + (ct (fun i => (wd (fun i => hM hs s0 i || hM hs o0 i) k).toBitVec.getLsbD i) 64)))), (0, .ref (K (20 + s0))), (1, .ref (K (20 + o0)))]) dX0_sizeOfEither_29 rfl (nI_add k 1) (by decide) rfl ?_
        refine zz_goto 32 4 X.1 dX0_sizeOfEither_32 (by decide) ?_
        refine zz_lvs [2, 3, 1, 0] rfl ?_
        exact ih4 (k + 1) (n2 + (ct (fun i => (wd (fun i => hM hs s0 i || hM hs o0 i) k).toBitVec.getLsbD i) 64)) (by omega) (by rw [hn]; exact ct_word) (by omega)
  refine zz_lvs [2, 3, 1, 0] rfl ?_
  exact C4 (16 - 0 + 1) 0 0 (by omega) (rfl) (Nat.lt_succ_self _)
abbrev rm_X0_firstCommonWith : Room := { frames := 2, cells := 0, slots := 0, locals := 43 }
theorem yd_X0_firstCommonWith : yX0_firstCommonWith.cls = RX0 ∧ yX0_firstCommonWith.cls ≠ "java/lang/invoke/MethodHandle" ∧ yX0_firstCommonWith.cls ≠ "java/lang/invoke/VarHandle" ∧ (parseMethodDescriptor yX0_firstCommonWith.desc).map (fun d => d.parameters.length) = some 1 := by decide +kernel
set_option maxHeartbeats 4000000 in
set_option maxRecDepth 100000 in
theorem kt_X0_firstCommonWith (l : Launch) (D : va_G) (C : Nat → ClassId) (K : Nat → Nat) (hAp : DAp K) (F : Nat → Int32) (hs : Nat → Bool) (G T : Nat → Nat → Int32) (s0 : Nat) (o0 : Nat) (hs0 : s0 < 8) (ho0 : o0 < 8) : CMi l yX0_firstCommonWith wsX0_firstCommonWith rm_X0_firstCommonWith D C K (20 + s0) [.ref (K (20 + o0))] F hs G T (fun (r : Int32) (u : CSt) => r = (nx (fun i => hM hs s0 i && hM hs o0 i) 0) ∧ u = (F, hs, G, T)) := by
  refine CMi_of (lv := [(0, .ref (K (20 + s0))), (1, .ref (K (20 + o0)))]) (cc := cX0_firstCommonWith) (maxL := 5) (ret := (some .int)) rfl (by decide +kernel) (Nat.le_of_ble_eq_true rfl) rfl ?_
  intro p e s m args below meth c X hml hr hlk
  generalize hQ : MQ below _ args s 0 0 _ = Q
  refine zz_iconst 0 X.1 (v := nI 0) dX0_firstCommonWith_0 rfl ?_
  refine zz_istore_n 1 X.1 (lv' := [(2, .int (nI 0)), (0, .ref (K (20 + s0))), (1, .ref (K (20 + o0)))]) dX0_firstCommonWith_1 (by decide) rfl ?_
  have C2 : ∀ (d : Nat) (k : Nat) (hk : k ≤ 16) (hz : ∀ i, i < 64 * k → (hM hs s0 i && hM hs o0 i) = false) (hd : 16 - k < d), ZZ p l e rm_X0_firstCommonWith s m args below meth c 0 0 Q (zz_A (DAd K) s.heap.size) (DP D C K F (WH hs) G T) 5 [(0, .ref (K (20 + s0))), (1, .ref (K (20 + o0))), (2, .int (nI k))] [] 2 := by
    intro d
    induction d with
    | zero => intro k hk hz hd; exact absurd hd (Nat.not_lt_zero _)
    | succ d ih2 =>
      intro k hk hz hd
      refine zz_iload_n 2 X.1 2 dX0_firstCommonWith_2 rfl ?_
      refine zz_bipush 3 X.1 (v := nI 16) dX0_firstCommonWith_3 rfl ?_
      refine zz_icmp_ge 5 44 X.1 (nI_toInt (by omega)) (nI_toInt (by omega)) dX0_firstCommonWith_5 (by decide) (fun h5 => ?_) (fun h5 => ?_)
      · skip
        refine zz_iconst 44 X.1 (v := (-1)) dX0_firstCommonWith_44 (by decide) ?_
        rw [← hQ]
        refine zz_iret 45 X.1 hr rfl hlk (F, hs, G, T) ?_ (fun _ h _ => h) dX0_firstCommonWith_45
        exact ⟨(nx_no (fun i _ h2 => hz i (by omega))).symm, rfl⟩
      · skip
        refine zz_aload_n 8 X.1 0 dX0_firstCommonWith_8 rfl ?_
        refine dd_getM 9 X (by decide +kernel) (i := s0) (by omega) (by decide +kernel) dX0_firstCommonWith_9 ?_
        refine zz_iload_n 12 X.1 2 dX0_firstCommonWith_12 rfl ?_
        refine dd_lld 13 X (i := s0) (k := k) (by omega) (by omega) dX0_firstCommonWith_13 ?_
        refine zz_aload_n 14 X.1 1 dX0_firstCommonWith_14 rfl ?_
        refine dd_getM 15 X (by decide +kernel) (i := o0) (by omega) (by decide +kernel) dX0_firstCommonWith_15 ?_
        refine zz_iload_n 18 X.1 2 dX0_firstCommonWith_18 rfl ?_
        refine dd_lld 19 X (i := o0) (k := k) (by omega) (by omega) dX0_firstCommonWith_19 ?_
        refine zz_land 20 X.1 (v := wd (fun i => hM hs s0 i && hM hs o0 i) k) dX0_firstCommonWith_20 wd_and ?_
        refine zz_lstore_n 21 X.1 (lv' := [(3, .long (wd (fun i => hM hs s0 i && hM hs o0 i) k)), (0, .ref (K (20 + s0))), (1, .ref (K (20 + o0))), (2, .int (nI k))]) dX0_firstCommonWith_21 (by decide) rfl ?_
        refine zz_lload_n 22 X.1 0 dX0_firstCommonWith_22 rfl ?_
        refine zz_lconst 23 X.1 (v := 0) dX0_firstCommonWith_23 (by decide) ?_
        refine zz_lcmp 24 X.1 dX0_firstCommonWith_24 ?_
        refine zz_ifL_eq 25 38 X.1 dX0_firstCommonWith_25 (by decide) (fun h25 => ?_) (fun h25 => ?_)
        · skip
          refine zz_iinc 38 X.1 3 (v := (nI (k + 1))) (lv' := [(2, .int (nI (k + 1))), (3, .long (wd (fun i => hM hs s0 i && hM hs o0 i) k)), (0, .ref (K (20 + s0))), (1, .ref (K (20 + o0)))]) dX0_firstCommonWith_38 rfl (nI_add k 1) (by decide) rfl ?_
          refine zz_goto 41 2 X.1 dX0_firstCommonWith_41 (by decide) ?_
          refine zz_lvs [2, 3, 0] rfl ?_
          exact ih2 (k + 1) (by omega) (fun i h => by rcases Nat.lt_or_ge i (64 * k) with z | z; exact hz i z; have := wd_eq0.mp h25 (i - 64 * k) (by omega); rw [show 64 * k + (i - 64 * k) = i by omega] at this; exact this) (by omega)
        · skip
          obtain ⟨tt, ht1, ht2, ht3, ht4, ht5⟩ := wd_low h25
          refine zz_bipush 28 X.1 (v := nI 64) dX0_firstCommonWith_28 rfl ?_
          refine zz_iload_n 30 X.1 3 dX0_firstCommonWith_30 rfl ?_
          refine zz_imul 31 X.1 (v := (nI (64 * k))) dX0_firstCommonWith_31 (pk_mul _ _) ?_
          refine zz_lload_n 32 X.1 0 dX0_firstCommonWith_32 rfl ?_
          refine zz_callS0i 33 ⟨X.1.1, X.1.2, hml, X.2.2.1, X.2.1⟩ (fun q h => Or.inr h) DP_keep (As := [.long (wd (fun i => hM hs s0 i && hM hs o0 i) k)]) (kt_J13_numberOfTrailingZeros_95d88 l (wd (fun i => hM hs s0 i && hM hs o0 i) k) tt (ht1) (ht2) (ht3)) gX0_firstCommonWith_J13_numberOfTrailingZeros_95d88 rfl ⟨rfl, rfl⟩ yd_J13_numberOfTrailingZeros_95d88.2 ⟨Nat.le_of_ble_eq_true rfl, Nat.le_of_ble_eq_true rfl⟩ rfl rfl (Nat.le_of_ble_eq_true rfl) ⟨Nat.zero_le _, Nat.zero_le _⟩ dX0_firstCommonWith_33 ?_
          intro r1 hu1
          obtain rfl := hu1
          refine zz_iadd 36 X.1 (v := (nI ((64 * k) + tt))) dX0_firstCommonWith_36 (nI_add _ _) ?_
          rw [← hQ]
          refine zz_iret 37 X.1 hr rfl hlk (F, hs, G, T) ?_ (fun _ h _ => h) dX0_firstCommonWith_37
          exact ⟨(nx_at (q := fun i => hM hs s0 i && hM hs o0 i) ht4 (Nat.zero_le _) (by omega) (fun j _ h => by rcases Nat.lt_or_ge j (64 * k) with z | z; exact hz j z; have := ht5 (j - 64 * k) (by omega); rw [show 64 * k + (j - 64 * k) = j by omega] at this; exact this)).symm, rfl⟩
  refine zz_lvs [1, 2, 0] rfl ?_
  exact C2 (16 - 0 + 1) 0 (by omega) (fun i h => by omega) (Nat.lt_succ_self _)
abbrev rm_X0_keepsLawsWith : Room := { frames := 4, cells := 0, slots := 0, locals := 89 }
theorem yd_X0_keepsLawsWith : yX0_keepsLawsWith.cls = RX0 ∧ yX0_keepsLawsWith.cls ≠ "java/lang/invoke/MethodHandle" ∧ yX0_keepsLawsWith.cls ≠ "java/lang/invoke/VarHandle" ∧ (parseMethodDescriptor yX0_keepsLawsWith.desc).map (fun d => d.parameters.length) = some 1 := by decide +kernel
set_option maxHeartbeats 4000000 in
set_option maxRecDepth 100000 in
theorem kt_X0_keepsLawsWith (l : Launch) (D : va_G) (C : Nat → ClassId) (K : Nat → Nat) (hAp : DAp K) (F : Nat → Int32) (hs : Nat → Bool) (G T : Nat → Nat → Int32) (s0 : Nat) (o0 : Nat) (hs0 : s0 < 8) (ho0 : o0 < 8) : CMi l yX0_keepsLawsWith wsX0_keepsLawsWith rm_X0_keepsLawsWith D C K (20 + s0) [.ref (K (20 + o0))] F hs G T (fun (r : Int32) (u : CSt) => r = (bI true) ∧ u = (F, hs, G, T)) := by
  refine CMi_of (lv := [(0, .ref (K (20 + s0))), (1, .ref (K (20 + o0)))]) (cc := cX0_keepsLawsWith) (maxL := 3) (ret := (some .boolean)) rfl (by decide +kernel) (Nat.le_of_ble_eq_true rfl) rfl ?_
  intro p e s m args below meth c X hml hr hlk
  generalize hQ : MQ below _ args s 0 0 _ = Q
  refine zz_iconst 0 X.1 (v := nI 0) dX0_keepsLawsWith_0 rfl ?_
  refine zz_istore_n 1 X.1 (lv' := [(2, .int (nI 0)), (0, .ref (K (20 + s0))), (1, .ref (K (20 + o0)))]) dX0_keepsLawsWith_1 (by decide) rfl ?_
  have C2 : ∀ (d : Nat) (k : Nat) (hk : k ≤ 16) (hd : 16 - k < d), ZZ p l e rm_X0_keepsLawsWith s m args below meth c 0 0 Q (zz_A (DAd K) s.heap.size) (DP D C K F (WH hs) G T) 3 [(0, .ref (K (20 + s0))), (1, .ref (K (20 + o0))), (2, .int (nI k))] [] 2 := by
    intro d
    induction d with
    | zero => intro k hk hd; exact absurd hd (Nat.not_lt_zero _)
    | succ d ih2 =>
      intro k hk hd
      refine zz_iload_n 2 X.1 2 dX0_keepsLawsWith_2 rfl ?_
      refine zz_bipush 3 X.1 (v := nI 16) dX0_keepsLawsWith_3 rfl ?_
      refine zz_icmp_ge 5 58 X.1 (nI_toInt (by omega)) (nI_toInt (by omega)) dX0_keepsLawsWith_5 (by decide) (fun h5 => ?_) (fun h5 => ?_)
      · skip
        have hie := ct_ie (hM hs s0) (hM hs o0) 1024
        have hc1 := ct_le (hM hs s0) 1024
        have hc2 := ct_le (hM hs o0) 1024
        have hc3 := ct_le (fun i => hM hs s0 i && hM hs o0 i) 1024
        have hc4 := ct_le (fun i => hM hs s0 i || hM hs o0 i) 1024
        refine zz_aload_n 58 X.1 0 dX0_keepsLawsWith_58 rfl ?_
        refine dd_callVi 59 X hml (th := 20 + s0) (As := []) (kt_X0_size l D C K hAp F hs G T s0 (by first | rfl | assumption | omega)) gX0_keepsLawsWith_X0_size rfl ⟨rfl, rfl⟩ (dr_M X (i := s0) (by omega)) yd_X0_size ⟨Nat.le_of_ble_eq_true rfl, Nat.le_of_ble_eq_true rfl⟩ rfl rfl (Nat.le_of_ble_eq_true rfl) ⟨Nat.zero_le _, Nat.zero_le _⟩ dX0_keepsLawsWith_59 ?_
        rintro r1 ⟨F1, hs1, G1, T1⟩ hu1
        obtain ⟨rfl, hv1⟩ := hu1
        cases hv1
        refine zz_world (P' := (DP D C K F (WH hs) G T)) (fun _ h => h) ?_
        refine zz_aload_n 62 X.1 1 dX0_keepsLawsWith_62 rfl ?_
        refine dd_callVi 63 X hml (th := 20 + o0) (As := []) (kt_X0_size l D C K hAp F hs G T o0 (by first | rfl | assumption | omega)) gX0_keepsLawsWith_X0_size rfl ⟨rfl, rfl⟩ (dr_M X (i := o0) (by omega)) yd_X0_size ⟨Nat.le_of_ble_eq_true rfl, Nat.le_of_ble_eq_true rfl⟩ rfl rfl (Nat.le_of_ble_eq_true rfl) ⟨Nat.zero_le _, Nat.zero_le _⟩ dX0_keepsLawsWith_63 ?_
        rintro r2 ⟨F2, hs2, G2, T2⟩ hu2
        obtain ⟨rfl, hv2⟩ := hu2
        cases hv2
        refine zz_world (P' := (DP D C K F (WH hs) G T)) (fun _ h => h) ?_
        refine zz_iadd 66 X.1 (v := (nI ((ct (hM hs s0) 1024) + (ct (hM hs o0) 1024)))) dX0_keepsLawsWith_66 (nI_add _ _) ?_
        refine zz_aload_n 67 X.1 0 dX0_keepsLawsWith_67 rfl ?_
        refine zz_aload_n 68 X.1 1 dX0_keepsLawsWith_68 rfl ?_
        refine dd_callVi 69 X hml (th := 20 + s0) (As := [.ref (K (20 + o0))]) (kt_X0_sizeOfCommon l D C K hAp F hs G T s0 o0 (by first | rfl | assumption | omega) (by first | rfl | assumption | omega)) gX0_keepsLawsWith_X0_sizeOfCommon rfl ⟨rfl, rfl⟩ (dr_M X (i := s0) (by omega)) yd_X0_sizeOfCommon ⟨Nat.le_of_ble_eq_true rfl, Nat.le_of_ble_eq_true rfl⟩ rfl rfl (Nat.le_of_ble_eq_true rfl) ⟨Nat.zero_le _, Nat.zero_le _⟩ dX0_keepsLawsWith_69 ?_
        rintro r3 ⟨F3, hs3, G3, T3⟩ hu3
        obtain ⟨rfl, hv3⟩ := hu3
        cases hv3
        refine zz_world (P' := (DP D C K F (WH hs) G T)) (fun _ h => h) ?_
        refine zz_isub 72 X.1 (v := (nI (((ct (hM hs s0) 1024) + (ct (hM hs o0) 1024)) - (ct (fun i => hM hs s0 i && hM hs o0 i) 1024)))) dX0_keepsLawsWith_72 (pk_sub (by omega)) ?_
        refine zz_aload_n 73 X.1 0 dX0_keepsLawsWith_73 rfl ?_
        refine zz_aload_n 74 X.1 1 dX0_keepsLawsWith_74 rfl ?_
        refine dd_callVi 75 X hml (th := 20 + s0) (As := [.ref (K (20 + o0))]) (kt_X0_sizeOfEither l D C K hAp F hs G T s0 o0 (by first | rfl | assumption | omega) (by first | rfl | assumption | omega)) gX0_keepsLawsWith_X0_sizeOfEither rfl ⟨rfl, rfl⟩ (dr_M X (i := s0) (by omega)) yd_X0_sizeOfEither ⟨Nat.le_of_ble_eq_true rfl, Nat.le_of_ble_eq_true rfl⟩ rfl rfl (Nat.le_of_ble_eq_true rfl) ⟨Nat.zero_le _, Nat.zero_le _⟩ dX0_keepsLawsWith_75 ?_
        rintro r4 ⟨F4, hs4, G4, T4⟩ hu4
        obtain ⟨rfl, hv4⟩ := hu4
        cases hv4
        refine zz_world (P' := (DP D C K F (WH hs) G T)) (fun _ h => h) ?_
        refine zz_icmp_ne 78 85 X.1 (nI_toInt (by omega)) (nI_toInt (by omega)) dX0_keepsLawsWith_78 (by decide) (fun h78 => ?_) (fun h78 => ?_)
        · exfalso; omega
        · skip
          refine zz_iconst 81 X.1 (v := nI 1) dX0_keepsLawsWith_81 rfl ?_
          refine zz_goto 82 86 X.1 dX0_keepsLawsWith_82 (by decide) ?_
          refine zz_topi (bI true) rfl ?_
          rw [← hQ]
          refine zz_iret 86 X.1 hr (bI_nar _) hlk (F, hs, G, T) ?_ (fun _ h _ => h) dX0_keepsLawsWith_86
          exact ⟨rfl, rfl⟩
      · skip
        refine zz_aload_n 8 X.1 0 dX0_keepsLawsWith_8 rfl ?_
        refine dd_getM 9 X (by decide +kernel) (i := s0) (by omega) (by decide +kernel) dX0_keepsLawsWith_9 ?_
        refine zz_iload_n 12 X.1 2 dX0_keepsLawsWith_12 rfl ?_
        refine dd_lld 13 X (i := s0) (k := k) (by omega) (by omega) dX0_keepsLawsWith_13 ?_
        refine zz_aload_n 14 X.1 1 dX0_keepsLawsWith_14 rfl ?_
        refine dd_getM 15 X (by decide +kernel) (i := o0) (by omega) (by decide +kernel) dX0_keepsLawsWith_15 ?_
        refine zz_iload_n 18 X.1 2 dX0_keepsLawsWith_18 rfl ?_
        refine dd_lld 19 X (i := o0) (k := k) (by omega) (by omega) dX0_keepsLawsWith_19 ?_
        refine zz_lor 20 X.1 (v := wd (fun i => hM hs s0 i || hM hs o0 i) k) dX0_keepsLawsWith_20 wd_or ?_
        refine zz_ldc2 21 X.1 (v := -1) dX0_keepsLawsWith_21 X.2.2.1 (by exact (X.2.1 _ (by decide +kernel))) ?_
        refine zz_lxor 24 X.1 (v := wd (fun i => !(hM hs s0 i || hM hs o0 i)) k) dX0_keepsLawsWith_24 wd_not ?_
        refine zz_aload_n 25 X.1 0 dX0_keepsLawsWith_25 rfl ?_
        refine dd_getM 26 X (by decide +kernel) (i := s0) (by omega) (by decide +kernel) dX0_keepsLawsWith_26 ?_
        refine zz_iload_n 29 X.1 2 dX0_keepsLawsWith_29 rfl ?_
        refine dd_lld 30 X (i := s0) (k := k) (by omega) (by omega) dX0_keepsLawsWith_30 ?_
        refine zz_ldc2 31 X.1 (v := -1) dX0_keepsLawsWith_31 X.2.2.1 (by exact (X.2.1 _ (by decide +kernel))) ?_
        refine zz_lxor 34 X.1 (v := wd (fun i => !hM hs s0 i) k) dX0_keepsLawsWith_34 wd_not ?_
        refine zz_aload_n 35 X.1 1 dX0_keepsLawsWith_35 rfl ?_
        refine dd_getM 36 X (by decide +kernel) (i := o0) (by omega) (by decide +kernel) dX0_keepsLawsWith_36 ?_
        refine zz_iload_n 39 X.1 2 dX0_keepsLawsWith_39 rfl ?_
        refine dd_lld 40 X (i := o0) (k := k) (by omega) (by omega) dX0_keepsLawsWith_40 ?_
        refine zz_ldc2 41 X.1 (v := -1) dX0_keepsLawsWith_41 X.2.2.1 (by exact (X.2.1 _ (by decide +kernel))) ?_
        refine zz_lxor 44 X.1 (v := wd (fun i => !hM hs o0 i) k) dX0_keepsLawsWith_44 wd_not ?_
        refine zz_land 45 X.1 (v := wd (fun i => !hM hs s0 i && !hM hs o0 i) k) dX0_keepsLawsWith_45 wd_and ?_
        refine zz_lcmp 46 X.1 dX0_keepsLawsWith_46 ?_
        refine zz_ifL_eq 47 52 X.1 dX0_keepsLawsWith_47 (by decide) (fun h47 => ?_) (fun h47 => ?_)
        · skip
          refine zz_iinc 52 X.1 2 (v := (nI (k + 1))) (lv' := [(2, .int (nI (k + 1))), (0, .ref (K (20 + s0))), (1, .ref (K (20 + o0)))]) dX0_keepsLawsWith_52 rfl (nI_add k 1) (by decide) rfl ?_
          refine zz_goto 55 2 X.1 dX0_keepsLawsWith_55 (by decide) ?_
          refine zz_lvs [1, 2, 0] rfl ?_
          exact ih2 (k + 1) (by omega) (by omega)
        · exfalso; exact h47 (wd_cong (fun i _ => Bool.not_or _ _))
  refine zz_lvs [1, 2, 0] rfl ?_
  exact C2 (16 - 0 + 1) 0 (by omega) (Nat.lt_succ_self _)
