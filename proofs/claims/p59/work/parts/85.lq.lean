/-! What the law's methods ask of numbers and sets. -/
section LQS
variable {p : Program} {l : Launch} {e : Env} {R : Room} {s : State} {m : MethodId} {args : Array Value} {below : List Frame} {meth : Method} {c : Code} {cells slots : Nat} {Q : State → Prop} {A : Nat → Prop} {P : Heap → Prop} {n : Nat} {lv lv' : List (Nat × Value)} {st : List Value} {cc : ByteArray} {D : va_G} {C : Nat → ClassId} {K : Nat → Nat} {kL kH : Nat} {x : Int32} {F : Nat → Int32} {hs hs' : Nat → Bool} {G T : Nat → Nat → Int32} {b b' : Nat → Bool}
theorem zz_tabIn (pc tgt : Nat) (hc : p.tables.exec = Jvm.exec ∧ c.code = cc) {dflt lo hi : Int} {offs : Array Int} {len : Nat} {x : Int32} {off : Int} (hd : decode cc pc = .ok (.tableswitch dflt lo hi offs, len)) (h1 : ¬ x.toInt < lo) (h2 : ¬ hi < x.toInt) (ho : offs[(x.toInt - lo).toNat]? = some off) (ht : (pc : Int) + off = (tgt : Int)) (k : ZZ p l e R s m args below meth c cells slots Q A P n lv st tgt) : ZZ p l e R s m args below meth c cells slots Q A P n lv (.int x :: st) pc := fun H locs ls hP hS hl => lv_tableIn hc.1 hc.2 hd h1 h2 ho ht (k H locs ls hP hS hl)
theorem zz_tabOut (pc tgt : Nat) (hc : p.tables.exec = Jvm.exec ∧ c.code = cc) {dflt lo hi : Int} {offs : Array Int} {len : Nat} {x : Int32} (hd : decode cc pc = .ok (.tableswitch dflt lo hi offs, len)) (h : x.toInt < lo ∨ hi < x.toInt) (ht : (pc : Int) + dflt = (tgt : Int)) (k : ZZ p l e R s m args below meth c cells slots Q A P n lv st tgt) : ZZ p l e R s m args below meth c cells slots Q A P n lv (.int x :: st) pc := fun H locs ls hP hS hl => lv_tableOut hc.1 hc.2 hd h ht (k H locs ls hP hS hl)
theorem lp_hs (h : hs = hs') : ∀ H : Heap, LPo D C K kL kH (x, (F, hs, G, T), b) H → LPo D C K kL kH (x, (F, hs', G, T), b) H := fun _ q => h ▸ q
theorem lp_b (h : b = b') : ∀ H : Heap, LPo D C K kL kH (x, (F, hs, G, T), b) H → LPo D C K kL kH (x, (F, hs, G, T), b') H := fun _ q => h ▸ q
end LQS
theorem ll_nI (y : Int32) : y = nI y.toBitVec.toNat := by
  refine (Int32.toBitVec_inj).mp ?_
  show _ = (Int32.ofNat _).toBitVec
  rw [Int32.toBitVec_ofNat', BitVec.ofNat_toNat]
  simp
theorem ll_ush (y : Int32) : ∃ k : Nat, (y.toUInt32 >>> ((nI 16).toUInt32 &&& Int32.toUInt32 31)).toInt32 = nI k ∧ k < 65536 := by
  have h : y.toBitVec.toNat < 2 ^ 32 := y.toBitVec.isLt
  refine ⟨y.toBitVec.toNat / 2 ^ 16, ?_, by omega⟩
  have h1 := pk_ushrN h (nI 16) 16 (by decide)
  rw [← ll_nI y] at h1
  exact h1
/-- what a sign makes of two -/
def du (sg : Nat) (a c : Bool) : Bool := if sg = 38 then a && c else if sg = 124 then a || c else if sg = 126 then a != c else if sg = 33 then a && !c else if sg = 45 then !a else a
/-- the row's first n places are read -/
def bU (hs b : Nat → Bool) (n : Nat) : Nat → Bool := fun i => if i < n then hs i else b i
theorem bU_0 {hs b : Nat → Bool} : b = bU hs b 0 := by
  funext i
  unfold bU
  rw [if_neg (by omega)]
theorem bU_up {hs b b1 : Nat → Bool} {n k : Nat} (h : b1 = bU hs b n) (hk : k = n + 1) : va_up b1 n (hs n) = bU hs b k := by
  subst hk
  rw [h]
  funext i
  unfold va_up bU
  by_cases h1 : i = n
  · subst h1
    rw [if_pos rfl, if_pos (by omega)]
  · rw [if_neg h1]
    by_cases h2 : i < n
    · rw [if_pos h2, if_pos (by omega)]
    · rw [if_neg h2, if_neg (by omega)]
def RD (hs b : Nat → Bool) : Prop := ∀ i, i < 3072 → b i = hs i
theorem RD_hM {hs b : Nat → Bool} (h : RD hs b) {s i : Nat} (hs3 : s < 3) (hi : i < 1024) : b (1024 * s + i) = hM hs s i := h _ (by omega)
theorem su_t {q : Nat → Bool} {i : Nat} (h : q i = true) (hi : i < 2 ^ 31) : lN (su q i) + (nI i).toInt64 = lN (su q (i + 1)) := by
  rw [nI_l hi, lN_add]
  show lN (su q i + i) = lN (su q i + (if q i then i else 0))
  rw [if_pos h]
theorem su_f {q : Nat → Bool} {i : Nat} (h : q i = false) : lN (su q i) + 0 = lN (su q (i + 1)) := by
  have e : su q (i + 1) = su q i := by
    show su q i + (if q i then i else 0) = su q i
    rw [if_neg (by rw [h]; decide)]
    rfl
  rw [e]
  exact lN_add (su q i) 0
theorem bU_at {hs b : Nat → Bool} {n k : Nat} (h : n < k) : bU hs b k n = hs n := if_pos h
theorem bg_n {q : Nat → Bool} {i : Nat} (h : q i = false) : bg q i = false := by simp [bg, h]
theorem bg_0 {q : Nat → Bool} {i : Nat} (h : q i = true) (h0 : i = 0) : bg q i = true := by simp [bg, h0, h0 ▸ h]
theorem bg_p {q : Nat → Bool} {i : Nat} (hp : q (i - 1) = true) (h0 : i ≠ 0) : bg q i = false := by simp [bg, hp, h0]
theorem bg_q {q : Nat → Bool} {i : Nat} (h : q i = true) (hp : q (i - 1) = false) : bg q i = true := by simp [bg, h, hp]
theorem ct_ln0 {q : Nat → Bool} : ∀ n, (ct q n = 0 ↔ ln q n = 0)
  | 0 => by simp [ct, ln]
  | n + 1 => by
    have h := ct_ln0 (q := q) n
    by_cases hq : q n = true
    · simp [ct, ln, hq]
    · simp [ct, ln, hq, h]

theorem pX_cong {q q' : Nat → Bool} {f t : Nat} (h : ∀ i, i < 1024 → q i = q' i) : ∀ i, i < 1024 → pX q f t i = pX q' f t i := fun i hi => by unfold pX; rw [h i hi]
theorem pR_cong {q q' : Nat → Bool} {f t : Nat} {b : Bool} (h : ∀ i, i < 1024 → q i = q' i) : ∀ i, i < 1024 → pR q f t b i = pR q' f t b i := fun i hi => by unfold pR; rw [h i hi]
theorem p1_cong {q q' : Nat → Bool} {k : Nat} {b : Bool} (h : ∀ i, i < 1024 → q i = q' i) : ∀ i, i < 1024 → p1 q k b i = p1 q' k b i := fun i hi => by unfold p1; rw [h i hi]
theorem pT_cong {q q' : Nat → Bool} {f t : Nat} (h : ∀ i, i < 1024 → q i = q' i) : ∀ i, i < 1024 → pT q f t i = pT q' f t i := fun i _ => by
  unfold pT
  by_cases h2 : f + i < 1024
  · rw [h _ h2]
  · simp [h2]
theorem pH_cong {q q' : Nat → Bool} {b : Int} (h : ∀ i, i < 1024 → q i = q' i) : ∀ i, i < 1024 → pH q b i = pH q' b i := fun i _ => by
  unfold pH
  by_cases h2 : 0 ≤ (i : Int) - b ∧ (i : Int) - b < 1024
  · rw [h _ (by omega)]
  · by_cases h3 : b ≤ (i : Int)
    · have h4 : ¬ ((i : Int) - b < 1024) := by omega
      simp [h4]
    · simp [h3]
theorem pA_cong {q q' r r' : Nat → Bool} {x y : Bool} (h : ∀ i, i < 1024 → q i = q' i) (h2 : ∀ i, i < 1024 → r i = r' i) : ∀ i, i < 1024 → pA q r x y i = pA q' r' x y i := fun i hi => by unfold pA; rw [h i hi, h2 i hi]
theorem cg2 {s : Nat} {a a' b b' : Bool} (h : a = a') (h2 : b = b') : pJ s a b = pJ s a' b' := by rw [h, h2]
theorem eq_t {q r : Nat → Bool} (h : ∀ i, i < 1024 → q i = r i) : decide (ct (pA q r true false) 1024 + ct (pA q r false true) 1024 = 0) = true := by
  rw [ct_zero (fun i hi => by unfold pA; rw [h i hi]; cases r i <;> rfl), ct_zero (fun i hi => by unfold pA; rw [h i hi]; cases r i <;> rfl)]
  rfl
theorem within_t {q r : Nat → Bool} (h : ∀ i, i < 1024 → q i = true → r i = true) : decide (ct (pA q r true false) 1024 = 0) = true := by
  rw [ct_zero (fun i hi => by
    unfold pA
    have := h i hi
    cases hq : q i <;> cases hr : r i <;> simp_all)]
  rfl
theorem meet_f {q r : Nat → Bool} (h : ∀ i, i < 1024 → q i = true → r i = false) : decide (0 < ct (pA q r true true) 1024) = false := by
  rw [ct_zero (fun i hi => by
    unfold pA
    have := h i hi
    cases hq : q i <;> cases hr : r i <;> simp_all)]
  rfl
theorem ct_flip {q : Nat → Bool} : ct (pX q 0 1024) 1024 + ct q 1024 = 1024 := by
  have h := ct_not q 1024
  rw [← ct_cong (p := pX q 0 1024) (fun i hi => by unfold pX; rw [if_pos ⟨Nat.zero_le _, hi⟩])] at h
  exact h
theorem fnd_cong {q r : Nat → Bool} (h : ∀ i, i < 1024 → q i = r i) : ∀ d i, i + d ≤ 1024 → fnd q d i = fnd r d i
  | 0, _, _ => rfl
  | d + 1, i, hd => by
    unfold fnd
    rw [h i (by omega), fnd_cong h d (i + 1) (by omega)]
theorem nx_cong {q r : Nat → Bool} (h : ∀ i, i < 1024 → q i = r i) (i : Nat) : nx q i = nx r i := by
  unfold nx
  by_cases hi : i ≤ 1024
  · exact fnd_cong h _ _ (by omega)
  · rw [show 1024 - i = 0 by omega]
    rfl
theorem gmr_cong {q r : Nat → Bool} (h : ∀ i, i < 1024 → q i = r i) : ∀ d i, i + d ≤ 1024 → gmr q d i = gmr r d i
  | 0, _, _ => rfl
  | d + 1, i, hd => by
    unfold gmr
    rw [h i (by omega), gmr_cong h d (i + 1) (by omega)]
theorem nB_cong {q r : Nat → Bool} {f : Nat} : ∀ {n : Nat}, (∀ i, i < n → q (f + i) = r (f + i)) → nB q f n = nB r f n
  | 0, _ => rfl
  | n + 1, h => by
    unfold nB
    rw [h n (by omega), nB_cong (fun i hi => h i (by omega))]
theorem fg_cong {q r : Nat → Bool} (h : ∀ i, i < 1024 → q i = r i) : ∀ k, k ≤ 16 → ∀ w, fg q k w = fg r k w
  | 0, _, _ => rfl
  | k + 1, hk, w => by
    unfold fg
    rw [nB_cong (q := q) (r := r) (fun i hi => h _ (by omega)), fg_cong h k (by omega)]
theorem fpr_cong {q r : Nat → Bool} (h : ∀ i, i < 1024 → q i = r i) : fpr q = fpr r := by
  unfold fpr
  rw [fg_cong h 16 (Nat.le_refl _)]
theorem RD_sS {hs b p : Nat → Bool} {s : Nat} (h : RD hs b) (h3 : 3 ≤ s) : RD (sS hs s p) b := fun i hi => by
  rw [h i hi]
  unfold sS sF
  rw [if_neg (by omega)]
/-! counts of two sets -/
theorem ct_pJ38 (q r : Nat → Bool) : ∀ n, ct q n + ct r n = ct (fun i => pJ 38 (q i) (r i)) n + ct (fun i => pJ 124 (q i) (r i)) n
  | 0 => rfl
  | n + 1 => by
    have h := ct_pJ38 q r n
    have e1 : pJ 38 (q n) (r n) = (q n && r n) := rfl
    have e2 : pJ 124 (q n) (r n) = (q n || r n) := rfl
    simp only [ct, e1, e2]
    generalize ct (fun i => pJ 38 (q i) (r i)) n = A1 at h ⊢
    generalize ct (fun i => pJ 124 (q i) (r i)) n = A2 at h ⊢
    generalize ct q n = A3 at h ⊢
    generalize ct r n = A4 at h ⊢
    rcases zb_tf (q n) with z1 | z1 <;> rcases zb_tf (r n) with z2 | z2 <;> simp [z1, z2] <;> omega
theorem ct_pJ33 (q r : Nat → Bool) : ∀ n, ct (fun i => pJ 33 (q i) (r i)) n + ct (fun i => pJ 38 (q i) (r i)) n = ct q n
  | 0 => rfl
  | n + 1 => by
    have h := ct_pJ33 q r n
    have e1 : pJ 33 (q n) (r n) = (q n && !r n) := rfl
    have e2 : pJ 38 (q n) (r n) = (q n && r n) := rfl
    simp only [ct, e1, e2]
    generalize ct (fun i => pJ 33 (q i) (r i)) n = A1 at h ⊢
    generalize ct (fun i => pJ 38 (q i) (r i)) n = A2 at h ⊢
    generalize ct q n = A3 at h ⊢
    rcases zb_tf (q n) with z1 | z1 <;> rcases zb_tf (r n) with z2 | z2 <;> simp [z1, z2] <;> omega
theorem ct_pA3 (q r : Nat → Bool) : ∀ n, ct (pA q r true false) n + ct (pA q r true true) n = ct q n ∧ ct (pA q r false true) n + ct (pA q r true true) n = ct r n ∧ ct (pA q r false false) n + ct (pA q r true false) n + ct (pA q r false true) n + ct (pA q r true true) n = n ∧ ct (pA q r true true) n = ct (fun i => pJ 38 (q i) (r i)) n ∧ ct (fun i => pJ 126 (q i) (r i)) n = ct (pA q r true false) n + ct (pA q r false true) n
  | 0 => by simp [ct]
  | n + 1 => by
    have h := ct_pA3 q r n
    have e1 : pA q r true true n = (q n && r n) := by cases hq : q n <;> cases hr : r n <;> simp [pA, hq, hr]
    have e2 : pA q r false false n = (!q n && !r n) := by cases hq : q n <;> cases hr : r n <;> simp [pA, hq, hr]
    have e3 : pA q r true false n = (q n && !r n) := by cases hq : q n <;> cases hr : r n <;> simp [pA, hq, hr]
    have e4 : pA q r false true n = (!q n && r n) := by cases hq : q n <;> cases hr : r n <;> simp [pA, hq, hr]
    have e5 : pJ 38 (q n) (r n) = (q n && r n) := rfl
    have e6 : pJ 126 (q n) (r n) = (q n != r n) := rfl
    simp only [ct, e1, e2, e3, e4, e5, e6]
    generalize ct (pA q r true true) n = A1 at h ⊢
    generalize ct (pA q r false false) n = A2 at h ⊢
    generalize ct (pA q r true false) n = A3 at h ⊢
    generalize ct (pA q r false true) n = A4 at h ⊢
    generalize ct (fun i => pJ 38 (q i) (r i)) n = A5 at h ⊢
    generalize ct (fun i => pJ 126 (q i) (r i)) n = A6 at h ⊢
    generalize ct q n = A7 at h ⊢
    generalize ct r n = A8 at h ⊢
    rcases zb_tf (q n) with z1 | z1 <;> rcases zb_tf (r n) with z2 | z2 <;> simp [z1, z2] <;> omega

/-! windows of a set -/
theorem ct_win {r P : Nat → Bool} {a n N : Nat} (hN : a + n ≤ N) (h0 : ∀ i, i < a → P i = false) (h1 : ∀ k, k < n → P (a + k) = r k) (h2 : ∀ i, a + n ≤ i → i < N → P i = false) : ct P N = ct r n := by
  rw [← ct_stop hN h2]
  have key : ∀ k, k ≤ n → ct P (a + k) = ct r k := by
    intro k
    induction k with
    | zero => intro _; exact ct_zero h0
    | succ k ih =>
      intro hk
      show ct P (a + k) + (if P (a + k) then 1 else 0) = ct r k + (if r k then 1 else 0)
      rw [ih (by omega), h1 k (by omega)]
  exact key n (Nat.le_refl _)
theorem ct_all : ∀ n, ct (fun _ => true) n = n
  | 0 => rfl
  | n + 1 => by
    show ct (fun _ => true) n + 1 = n + 1
    rw [ct_all n]
theorem ct_pT {q : Nat → Bool} {f t : Nat} (hft : f ≤ t) (ht : t ≤ 1024) : ct (pT q f t) 1024 = ct (pC q f t) 1024 := by
  have e1 : ct (pC q f t) 1024 = ct (pT q f t) (1024 - f) := ct_win (a := f) (by omega) (fun i hi => by unfold pC; simp [show ¬ f ≤ i by omega]) (fun k hk => by
    unfold pC pT
    by_cases h : f + k < t
    · simp [h, show f + k < 1024 by omega]
    · simp [h]) (fun i h1 h2 => by omega)
  rw [e1]
  exact (ct_stop (by omega) (fun i h1 h2 => by unfold pT; simp [show ¬ f + i < 1024 by omega])).symm
theorem ln_pT {q : Nat → Bool} {f t : Nat} (ht : t ≤ 1024) : ln (pT q f t) 1024 ≤ t - f := by
  rw [ln_down (m := t - f) (by omega) (fun i h1 h2 => by unfold pT; simp [show ¬ f + i < t by omega])]
  exact ln_le _ _
theorem pH_pT {q : Nat → Bool} {f t : Nat} (ht : t ≤ 1024) : ∀ i, i < 1024 → pH (pT q f t) (f : Int) i = pC q f t i := fun i hi => by
  unfold pH pT pC
  by_cases h : f ≤ i
  · rw [show ((i : Int) - (f : Int)).toNat = i - f by omega, show f + (i - f) = i by omega]
    by_cases h2 : i < t
    · simp [h, h2, hi, show (i : Int) - f < 1024 by omega, show (f : Int) ≤ i by omega]
    · simp [h2]
  · simp [h, show ¬ (f : Int) ≤ i by omega]
theorem ct_rng {f t : Nat} (hft : f ≤ t) (ht : t ≤ 1024) : ct (pR (fun _ => false) f t true) 1024 = t - f := by
  rw [ct_win (r := fun _ => true) (a := f) (n := t - f) (by omega) (fun i hi => by unfold pR; rw [if_neg (by omega)]) (fun k hk => by unfold pR; rw [if_pos (by omega)]) (fun i h1 h2 => by unfold pR; rw [if_neg (by omega)]), ct_all]
theorem pR_pC {q : Nat → Bool} {f t : Nat} : ∀ i, i < 1024 → pJ 38 (pR (fun _ => false) f t true i) (q i) = pC q f t i := fun i _ => by
  unfold pR pC
  by_cases h : f ≤ i ∧ i < t
  · rw [if_pos h]
    simp [pJ, h]
  · rw [if_neg h]
    simp [pJ, h]
/-! words and bytes -/
theorem ll_byte {q : Nat → Bool} {j k : Nat} (hk : k < 8) : (wd q j >>> ((nI (8 * k)).toInt64 &&& 63)) &&& 255 = lN (nB q (8 * (8 * j + k)) 8) := by
  rw [← Int64.toBitVec_inj]
  refine BitVec.eq_of_getLsbD_eq (fun i hi => ?_)
  have h255 : ∀ i, i < 64 → (255 : Int64).toBitVec.getLsbD i = decide (i < 8) := by decide +kernel
  have e : (wd q j >>> ((nI (8 * k)).toInt64 &&& 63)).toBitVec = (wd q j).toBitVec.sshiftRight (8 * k) := by rw [Int64.toBitVec_shiftRight, BitVec.sshiftRight', bL_cnt (8 * k) (by omega)]
  have hr : (lN (nB q (8 * (8 * j + k)) 8)).toBitVec.getLsbD i = (decide (i < 8) && q (8 * (8 * j + k) + i)) := by
    have hlt : nB q (8 * (8 * j + k)) 8 < 2 ^ 64 := Nat.lt_trans (nB_lt q _ 8) (by decide)
    show (lN (nB q (8 * (8 * j + k)) 8)).toBitVec.toNat.testBit i = _
    unfold lN
    rw [Int64.toBitVec_ofNat', BitVec.toNat_ofNat, Nat.mod_eq_of_lt hlt, nB_bit]
  rw [hr, Int64.toBitVec_and, BitVec.getLsbD_and, e, BitVec.getLsbD_sshiftRight, h255 i hi]
  by_cases h8 : i < 8
  · rw [wd_bit, show 64 * j + (8 * k + i) = 8 * (8 * j + k) + i by omega]
    simp [h8, show ¬ 64 ≤ i by omega, show 8 * k + i < 64 by omega]
  · simp [h8]
theorem bL_0 (i : Nat) : bL 0 i = false := by
  show (0#64).getLsbD i = false
  simp
theorem pW_H {w : Int64} {j i : Nat} : pH (pW3 w 0 0) ((64 * j : Nat) : Int) i = (decide (64 * j ≤ i ∧ i < 64 * j + 64) && bL w (i - 64 * j)) := by
  unfold pH pW3
  by_cases h : 64 * j ≤ i
  · rw [show ((i : Int) - ((64 * j : Nat) : Int)).toNat = i - 64 * j by omega]
    by_cases h2 : i - 64 * j < 64
    · rw [if_pos h2]
      simp [h, show i < 64 * j + 64 by omega, show (i : Int) - 64 * j < 1024 by omega, show (64 : Int) * j ≤ i by omega]
    · rw [if_neg h2, bL_0, bL_0]
      simp [show ¬ i < 64 * j + 64 by omega]
  · simp [h, show ¬ (64 : Int) * j ≤ i by omega]
theorem ct_pW {w : Int64} {j : Nat} (hj : j < 16) : ct (pH (pW3 w 0 0) ((64 * j : Nat) : Int)) 1024 = ct (fun i => w.toBitVec.getLsbD i) 64 :=
  ct_win (a := 64 * j) (by omega) (fun i hi => by rw [pW_H]; simp [show ¬ 64 * j ≤ i by omega]) (fun k hk => by rw [pW_H, show 64 * j + k - 64 * j = k by omega]; simp [hk, bL]) (fun i h1 h2 => by rw [pW_H]; simp [show ¬ i < 64 * j + 64 by omega])
/-- the words from j on, and word j before them -/
theorem un_word {q : Nat → Bool} {w : Int64} {j : Nat} (hw : w = wd q j) : ∀ i, i < 1024 → pJ 124 (decide (64 * (j + 1) ≤ i) && q i) (pH (pW3 w 0 0) ((64 * j : Nat) : Int) i) = (decide (64 * j ≤ i) && q i) := fun i _ => by
  rw [pW_H]
  by_cases h : 64 * j ≤ i
  · by_cases h2 : i < 64 * j + 64
    · have e : bL w (i - 64 * j) = q i := by
        rw [hw]
        show (wd q j).toBitVec.getLsbD (i - 64 * j) = q i
        rw [wd_bit, show 64 * j + (i - 64 * j) = i by omega]
        simp [show i - 64 * j < 64 by omega]
      rw [e]
      simp [pJ, h, h2, show ¬ 64 * (j + 1) ≤ i by omega]
    · simp [pJ, h, h2, show 64 * (j + 1) ≤ i by omega]
  · simp [pJ, h, show ¬ 64 * (j + 1) ≤ i by omega]
theorem ln_above {q : Nat → Bool} : ∀ {n : Nat} (i : Nat), ln q n ≤ i → i < n → q i = false
  | 0, i, _, h => by omega
  | n + 1, i, h1, h2 => by
    unfold ln at h1
    by_cases hq : q n = true
    · rw [if_pos hq] at h1
      omega
    · rw [if_neg hq] at h1
      rcases Nat.lt_or_ge i n with z | z
      · exact ln_above i h1 z
      · rw [show i = n by omega]
        simpa using hq
/-! from next to next -/
theorem nx_some {q : Nat → Bool} {m : Nat} (h : ¬ (nx q m).toInt = -1) : ∃ j, nx q m = nI j ∧ m ≤ j ∧ j < 1024 ∧ q j = true ∧ ∀ k, m ≤ k → k < j → q k = false := by
  have key : ∀ d i, i + d ≤ 1024 → (fnd q d i = -1 ∧ ∀ k, i ≤ k → k < i + d → q k = false) ∨ ∃ j, fnd q d i = nI j ∧ i ≤ j ∧ j < i + d ∧ q j = true ∧ ∀ k, i ≤ k → k < j → q k = false := by
    intro d
    induction d with
    | zero => intro i _; exact Or.inl ⟨rfl, fun k h1 h2 => by omega⟩
    | succ d ih =>
      intro i hi
      unfold fnd
      by_cases hq : q i = true
      · rw [if_pos hq]
        exact Or.inr ⟨i, rfl, Nat.le_refl _, by omega, hq, fun k h1 h2 => by omega⟩
      · rw [if_neg hq]
        have hq2 : q i = false := by simpa using hq
        rcases ih (i + 1) (by omega) with ⟨a1, a2⟩ | ⟨j, a1, a2, a3, a4, a5⟩
        · refine Or.inl ⟨a1, fun k h1 h2 => ?_⟩
          rcases Nat.lt_or_ge i k with z | z
          · exact a2 k z (by omega)
          · rw [show k = i by omega]; exact hq2
        · refine Or.inr ⟨j, a1, by omega, by omega, a4, fun k h1 h2 => ?_⟩
          rcases Nat.lt_or_ge i k with z | z
          · exact a5 k z h2
          · rw [show k = i by omega]; exact hq2
  unfold nx at h ⊢
  by_cases hm : m ≤ 1024
  · rcases key (1024 - m) m (by omega) with ⟨a1, _⟩ | ⟨j, a1, a2, a3, a4, a5⟩
    · rw [a1] at h
      exact absurd rfl h
    · exact ⟨j, a1, a2, by omega, a4, a5⟩
  · rw [show 1024 - m = 0 by omega] at h
    exact absurd rfl h
theorem nx_none {q : Nat → Bool} {m : Nat} (h : (nx q m).toInt = -1) : ∀ k, m ≤ k → k < 1024 → q k = false := by
  intro k h1 h2
  by_cases hq : q k = true
  · exfalso
    have key : ∀ d i, i ≤ k → k < i + d → i + d ≤ 1024 → 0 ≤ (fnd q d i).toInt := by
      intro d
      induction d with
      | zero => intro i _ _ _; omega
      | succ d ih =>
        intro i hi hk hd
        unfold fnd
        by_cases hq2 : q i = true
        · rw [if_pos hq2, nI_toInt (by omega)]
          omega
        · rw [if_neg hq2]
          rcases Nat.lt_or_ge i k with z | z
          · exact ih (i + 1) z (by omega) (by omega)
          · rw [show i = k by omega] at hq2
            exact absurd hq hq2
    have h3 := key (1024 - m) m h1 (by omega) (by omega)
    unfold nx at h
    omega
  · simpa using hq
theorem ct_lt {q : Nat → Bool} {k j : Nat} (h : k < j) (hq : q k = true) : ct q k < ct q j := by
  have h1 := ct_mono (q := q) (show k + 1 ≤ j from h)
  have h2 := ct_t hq
  omega
theorem mA_at {q : Nat → Bool} {j : Nat} (hj : j < 1024) (hq : q j = true) : mA q ((ct q j : Nat) : Int) = nI j := by
  refine nx_at (by simp [hq]) (Nat.zero_le _) hj (fun k _ hk => ?_)
  by_cases h : q k = true
  · have := ct_lt hk h
    simp [h]
    omega
  · simp [show q k = false by simpa using h]
theorem mA_no {q : Nat → Bool} {m : Nat} (hno : ∀ k, m ≤ k → k < 1024 → q k = false) : mA q ((ct q m : Nat) : Int) = -1 := by
  refine nx_no (fun k _ hk => ?_)
  by_cases h : q k = true
  · have hkm : k < m := by
      rcases Nat.lt_or_ge k m with z | z
      · exact z
      · rw [hno k z hk] at h; cases h
    have := ct_lt hkm h
    simp [h]
    omega
  · simp [show q k = false by simpa using h]
theorem mA_cong {q r : Nat → Bool} (h : ∀ i, i < 1024 → q i = r i) (b : Int) : mA q b = mA r b := nx_cong (fun i hi => by show (q i && decide ((ct q i : Int) = b)) = (r i && decide ((ct r i : Int) = b)); rw [h i hi, ct_cong (fun k hk => h k (by omega))]) 0
/-! gaps -/
theorem gm_spec {q : Nat → Bool} {i : Nat} (hi : i ≤ 1024) : i ≤ gm q i ∧ gm q i ≤ 1024 ∧ (gm q i < 1024 → q (gm q i) = false) ∧ ∀ k, i ≤ k → k < gm q i → q k = true := by
  have key : ∀ d i, i + d = 1024 → i ≤ gmr q d i ∧ gmr q d i ≤ 1024 ∧ (gmr q d i < 1024 → q (gmr q d i) = false) ∧ ∀ k, i ≤ k → k < gmr q d i → q k = true := by
    intro d
    induction d with
    | zero => intro i hd; exact ⟨Nat.le_refl _, by show i ≤ 1024; omega, fun h => absurd h (by show ¬ i < 1024; omega), fun k h1 h2 => absurd h2 (by show ¬ k < i; omega)⟩
    | succ d ih =>
      intro i hd
      unfold gmr
      by_cases hq : q i = true
      · rw [if_pos hq]
        obtain ⟨a1, a2, a3, a4⟩ := ih (i + 1) (by omega)
        refine ⟨by omega, a2, a3, fun k h1 h2 => ?_⟩
        rcases Nat.lt_or_ge i k with z | z
        · exact a4 k z h2
        · rw [show k = i by omega]; exact hq
      · rw [if_neg hq]
        exact ⟨Nat.le_refl _, by omega, fun _ => by simpa using hq, fun k h1 h2 => by omega⟩
  exact key (1024 - i) i (by omega)
theorem gm_cong {q r : Nat → Bool} (h : ∀ i, i < 1024 → q i = r i) {i : Nat} (hi : i ≤ 1024) : gm q i = gm r i := gmr_cong h _ _ (by omega)
theorem gm_pred {q : Nat → Bool} {f : Nat} (h0 : 0 < f) (h1 : f ≤ 1024) (h2 : f < 1024 → q f = false) : gm q (f - 1) = if q (f - 1) then f else f - 1 := by
  by_cases h : q (f - 1) = true
  · rw [if_pos h]
    exact gm_at (by omega) (by omega) h2 (fun k a b => by rw [show k = f - 1 by omega]; exact h)
  · rw [if_neg h]
    exact gm_at (Nat.le_refl _) (by omega) (fun _ => by simpa using h) (fun k a b => by omega)
theorem pmv_cong {q r : Nat → Bool} (h : ∀ i, i < 1024 → q i = r i) (m : Nat) : pmv q m = pmv r m := by
  unfold pmv
  by_cases h1 : 1024 < m
  · rw [if_pos h1, if_pos h1]
  · rw [if_neg h1, if_neg h1, ln_cong (p := fun i => !q i) (q := fun i => !r i) (fun i hi => by show (!q i) = !r i; rw [h i (by omega)])]
theorem nI_pm (n : Nat) : nI (n + 1) - 1 = nI n := by
  have h := nI_add n 1
  rw [← h]
  show nI n + 1 - 1 = nI n
  exact Int32.add_sub_cancel _ _
theorem pmv_at {q : Nat → Bool} {f : Nat} (h1 : f ≤ 1024) (h2 : f < 1024 → q f = false) : pmv q (f + 1) = nI f := by
  unfold pmv
  by_cases h : 1024 < f + 1
  · rw [if_pos h]
    exact nI_pm f
  · rw [if_neg h, ln_here (show (!q f) = true by rw [h2 (by omega)]; rfl)]
    exact nI_pm f

theorem mem_up {q : Nat → Bool} {m j : Nat} (hmj : m ≤ j) (hq : q j = true) (hb : ∀ k, m ≤ k → k < j → q k = false) : ∀ i, p1 (fun i => decide (i < m) && q i) j true i = (decide (i < j + 1) && q i) := fun i => by
  unfold p1
  by_cases hz : i = j
  · subst hz
    simp [hq]
  · rw [if_neg hz]
    by_cases h2 : i < m
    · simp [h2, show i < j + 1 by omega]
    · by_cases h3 : i < j
      · simp [hb i (by omega) h3]
      · simp [h2, show ¬ i < j + 1 by omega]
theorem mem_all {q : Nat → Bool} {m : Nat} (hno : ∀ k, m ≤ k → k < 1024 → q k = false) : ∀ i, i < 1024 → (decide (i < m) && q i) = q i := fun i hi => by
  by_cases h : i < m
  · simp [h]
  · rw [hno i (by omega) hi]
    simp
theorem has_no {q r : Nat → Bool} {f : Nat} (h : ∀ i, i < 1024 → r i = q i) (hf : f < 1024 → q f = false) : (decide (f < 1024) && r f) = false := by
  by_cases hz : f < 1024
  · rw [h f hz, hf hz]
    simp
  · simp [hz]
theorem gm_tern {q r : Nat → Bool} {f : Nat} (h : ∀ i, i < 1024 → r i = q i) (h0 : 0 < f) (h1 : f ≤ 1024) (h2 : f < 1024 → q f = false) : gm r (f - 1) = if (decide (f - 1 < 1024) && r (f - 1)) then f else f - 1 := by
  rw [gm_cong h (i := f - 1) (by omega), gm_pred h0 h1 h2, h (f - 1) (by omega)]
  simp [show f - 1 < 1024 by omega]
theorem w5_0 {q : Nat → Bool} {n : Nat} (hn : ln q 1024 ≤ 64 * n) : ∀ i, i < 1024 → false = (decide (64 * n ≤ i) && q i) := fun i hi => by
  by_cases hz : 64 * n ≤ i
  · rw [ln_above (q := q) i (by omega) hi]
    simp
  · simp [hz]

