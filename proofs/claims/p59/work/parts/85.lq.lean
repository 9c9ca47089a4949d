/-! What the law's methods ask of numbers and sets. -/
section LQS
variable {p : Program} {l : Launch} {e : Env} {R : Room} {s : State} {m : MethodId} {args : Array Value} {below : List Frame} {meth : Method} {c : Code} {cells slots : Nat} {Q : State → Prop} {A : Nat → Prop} {P : Heap → Prop} {n : Nat} {lv lv' : List (Nat × Value)} {st : List Value} {cc : ByteArray} {D : va_G} {C : Nat → ClassId} {K : Nat → Nat} {kL kH : Nat} {x : Int32} {F : Nat → Int32} {hs hs' : Nat → Bool} {G T : Nat → Nat → Int32} {b b' : Nat → Bool}
theorem zz_tabIn (pc tgt : Nat) (hc : p.tables.exec = Jvm.exec ∧ c.code = cc) {dflt lo hi : Int} {offs : Array Int} {len : Nat} {x : Int32} {off : Int} (hd : decode cc pc = .ok (.tableswitch dflt lo hi offs, len)) (h1 : ¬ x.toInt < lo) (h2 : ¬ hi < x.toInt) (ho : offs[(x.toInt - lo).toNat]? = some off) (ht : (pc : Int) + off = (tgt : Int)) (k : ZZ p l e R s m args below meth c cells slots Q A P n lv st tgt) : ZZ p l e R s m args below meth c cells slots Q A P n lv (.int x :: st) pc := fun H locs ls hP hS hl => lv_tableIn hc.1 hc.2 hd h1 h2 ho ht (k H locs ls hP hS hl)
theorem zz_tabOut (pc tgt : Nat) (hc : p.tables.exec = Jvm.exec ∧ c.code = cc) {dflt lo hi : Int} {offs : Array Int} {len : Nat} {x : Int32} (hd : decode cc pc = .ok (.tableswitch dflt lo hi offs, len)) (h : x.toInt < lo ∨ hi < x.toInt) (ht : (pc : Int) + dflt = (tgt : Int)) (k : ZZ p l e R s m args below meth c cells slots Q A P n lv st tgt) : ZZ p l e R s m args below meth c cells slots Q A P n lv (.int x :: st) pc := fun H locs ls hP hS hl => lv_tableOut hc.1 hc.2 hd h ht (k H locs ls hP hS hl)
theorem lp_hs (h : hs = hs') : ∀ H : Heap, LP D C K kL kH (x, (F, hs, G, T), b) H → LP D C K kL kH (x, (F, hs', G, T), b) H := fun _ q => h ▸ q
theorem lp_b (h : b = b') : ∀ H : Heap, LP D C K kL kH (x, (F, hs, G, T), b) H → LP D C K kL kH (x, (F, hs, G, T), b') H := fun _ q => h ▸ q
end LQS
theorem ll_nI (y : Int32) : y = nI y.toBitVec.toNat := by
  refine (Int32.toBitVec_inj).mp ?_
  show _ = (Int32.ofNat _).toBitVec
  rw [Int32.toBitVec_ofNat', BitVec.ofNat_toNat]
  simp
theorem ll_ush (y : Int32) : ∃ k : Nat, (y.toUInt32 >>> ((nI 16).toUInt32 &&& Int32.toUInt32 31)).toInt32 = nI k ∧ k < 65536 := by
  have h : y.toBitVec.toNat < 2 ^ 32 := y.toBitVec.isLt
  refine ⟨y.toBitVec.toNat / 2 ^ 16, ?_, by omega⟩
  have h1 := pk_ushrN h (nI 16) 16 (by decide)
  rw [← ll_nI y] at h1
  exact h1
/-- what a sign makes of two -/
def du (sg : Nat) (a c : Bool) : Bool := if sg = 38 then a && c else if sg = 124 then a || c else if sg = 126 then a != c else if sg = 33 then a && !c else if sg = 45 then !a else a
/-- the row's first n places are read -/
def bU (hs b : Nat → Bool) (n : Nat) : Nat → Bool := fun i => if i < n then hs i else b i
theorem bU_0 {hs b : Nat → Bool} : b = bU hs b 0 := by
  funext i
  unfold bU
  rw [if_neg (by omega)]
theorem bU_up {hs b b1 : Nat → Bool} {n k : Nat} (h : b1 = bU hs b n) (hk : k = n + 1) : va_up b1 n (hs n) = bU hs b k := by
  subst hk
  rw [h]
  funext i
  unfold va_up bU
  by_cases h1 : i = n
  · subst h1
    rw [if_pos rfl, if_pos (by omega)]
  · rw [if_neg h1]
    by_cases h2 : i < n
    · rw [if_pos h2, if_pos (by omega)]
    · rw [if_neg h2, if_neg (by omega)]
def RD (hs b : Nat → Bool) : Prop := ∀ i, i < 3072 → b i = hs i
theorem RD_hM {hs b : Nat → Bool} (h : RD hs b) {s i : Nat} (hs3 : s < 3) (hi : i < 1024) : b (1024 * s + i) = hM hs s i := h _ (by omega)
theorem ct_ln0 {q : Nat → Bool} : ∀ n, (ct q n = 0 ↔ ln q n = 0)
  | 0 => by simp [ct, ln]
  | n + 1 => by
    have h := ct_ln0 (q := q) n
    by_cases hq : q n = true
    · simp [ct, ln, hq]
    · simp [ct, ln, hq, h]

theorem pX_cong {q q' : Nat → Bool} {f t : Nat} (h : ∀ i, i < 1024 → q i = q' i) : ∀ i, i < 1024 → pX q f t i = pX q' f t i := fun i hi => by unfold pX; rw [h i hi]
theorem pR_cong {q q' : Nat → Bool} {f t : Nat} {b : Bool} (h : ∀ i, i < 1024 → q i = q' i) : ∀ i, i < 1024 → pR q f t b i = pR q' f t b i := fun i hi => by unfold pR; rw [h i hi]
theorem p1_cong {q q' : Nat → Bool} {k : Nat} {b : Bool} (h : ∀ i, i < 1024 → q i = q' i) : ∀ i, i < 1024 → p1 q k b i = p1 q' k b i := fun i hi => by unfold p1; rw [h i hi]
theorem pT_cong {q q' : Nat → Bool} {f t : Nat} (h : ∀ i, i < 1024 → q i = q' i) : ∀ i, i < 1024 → pT q f t i = pT q' f t i := fun i _ => by
  unfold pT
  by_cases h2 : f + i < 1024
  · rw [h _ h2]
  · simp [h2]
theorem pH_cong {q q' : Nat → Bool} {b : Int} (h : ∀ i, i < 1024 → q i = q' i) : ∀ i, i < 1024 → pH q b i = pH q' b i := fun i _ => by
  unfold pH
  by_cases h2 : 0 ≤ (i : Int) - b ∧ (i : Int) - b < 1024
  · rw [h _ (by omega)]
  · simp [h2]
theorem pA_cong {q q' r r' : Nat → Bool} {x y : Bool} (h : ∀ i, i < 1024 → q i = q' i) (h2 : ∀ i, i < 1024 → r i = r' i) : ∀ i, i < 1024 → pA q r x y i = pA q' r' x y i := fun i hi => by unfold pA; rw [h i hi, h2 i hi]
theorem eq_t {q r : Nat → Bool} (h : ∀ i, i < 1024 → q i = r i) : decide (ct (pA q r true false) 1024 + ct (pA q r false true) 1024 = 0) = true := by
  rw [ct_zero (fun i hi => by unfold pA; rw [h i hi]; cases r i <;> rfl), ct_zero (fun i hi => by unfold pA; rw [h i hi]; cases r i <;> rfl)]
  rfl
theorem within_t {q r : Nat → Bool} (h : ∀ i, i < 1024 → q i = true → r i = true) : decide (ct (pA q r true false) 1024 = 0) = true := by
  rw [ct_zero (fun i hi => by
    unfold pA
    have := h i hi
    cases hq : q i <;> cases hr : r i <;> simp_all)]
  rfl
theorem meet_f {q r : Nat → Bool} (h : ∀ i, i < 1024 → q i = true → r i = false) : decide (0 < ct (pA q r true true) 1024) = false := by
  rw [ct_zero (fun i hi => by
    unfold pA
    have := h i hi
    cases hq : q i <;> cases hr : r i <;> simp_all)]
  rfl
theorem ct_flip {q : Nat → Bool} : ct (pX q 0 1024) 1024 + ct q 1024 = 1024 := by
  have h := ct_not q 1024
  rw [← ct_cong (p := pX q 0 1024) (fun i hi => by unfold pX; rw [if_pos ⟨Nat.zero_le _, hi⟩])] at h
  exact h
theorem fnd_cong {q r : Nat → Bool} (h : ∀ i, i < 1024 → q i = r i) : ∀ d i, i + d ≤ 1024 → fnd q d i = fnd r d i
  | 0, _, _ => rfl
  | d + 1, i, hd => by
    unfold fnd
    rw [h i (by omega), fnd_cong h d (i + 1) (by omega)]
theorem nx_cong {q r : Nat → Bool} (h : ∀ i, i < 1024 → q i = r i) (i : Nat) : nx q i = nx r i := by
  unfold nx
  by_cases hi : i ≤ 1024
  · exact fnd_cong h _ _ (by omega)
  · rw [show 1024 - i = 0 by omega]
    rfl
theorem gmr_cong {q r : Nat → Bool} (h : ∀ i, i < 1024 → q i = r i) : ∀ d i, i + d ≤ 1024 → gmr q d i = gmr r d i
  | 0, _, _ => rfl
  | d + 1, i, hd => by
    unfold gmr
    rw [h i (by omega), gmr_cong h d (i + 1) (by omega)]
theorem nB_cong {q r : Nat → Bool} {f : Nat} : ∀ {n : Nat}, (∀ i, i < n → q (f + i) = r (f + i)) → nB q f n = nB r f n
  | 0, _ => rfl
  | n + 1, h => by
    unfold nB
    rw [h n (by omega), nB_cong (fun i hi => h i (by omega))]
theorem fg_cong {q r : Nat → Bool} (h : ∀ i, i < 1024 → q i = r i) : ∀ k, k ≤ 16 → ∀ w, fg q k w = fg r k w
  | 0, _, _ => rfl
  | k + 1, hk, w => by
    unfold fg
    rw [nB_cong (q := q) (r := r) (fun i hi => h _ (by omega)), fg_cong h k (by omega)]
theorem fpr_cong {q r : Nat → Bool} (h : ∀ i, i < 1024 → q i = r i) : fpr q = fpr r := by
  unfold fpr
  rw [fg_cong h 16 (Nat.le_refl _)]
theorem RD_sS {hs b p : Nat → Bool} {s : Nat} (h : RD hs b) (h3 : 3 ≤ s) : RD (sS hs s p) b := fun i hi => by
  rw [h i hi]
  unfold sS sF
  rw [if_neg (by omega)]
/-! counts of two sets -/
theorem ct_pJ38 (q r : Nat → Bool) : ∀ n, ct q n + ct r n = ct (fun i => pJ 38 (q i) (r i)) n + ct (fun i => pJ 124 (q i) (r i)) n
  | 0 => rfl
  | n + 1 => by
    have h := ct_pJ38 q r n
    unfold ct
    cases q n <;> cases r n <;> simp [pJ] <;> omega
theorem ct_pJ33 (q r : Nat → Bool) : ∀ n, ct (fun i => pJ 33 (q i) (r i)) n + ct (fun i => pJ 38 (q i) (r i)) n = ct q n
  | 0 => rfl
  | n + 1 => by
    have h := ct_pJ33 q r n
    unfold ct
    cases q n <;> cases r n <;> simp [pJ] <;> omega
theorem ct_pA (q r : Nat → Bool) : ∀ n, ct (pA q r true false) n + ct (pA q r true true) n = ct q n ∧ ct (pA q r false true) n + ct (pA q r true true) n = ct r n ∧ ct (pA q r false false) n + ct (pA q r true false) n + ct (pA q r false true) n + ct (pA q r true true) n = n ∧ ct (pA q r true true) n = ct (fun i => pJ 38 (q i) (r i)) n ∧ ct (fun i => pJ 126 (q i) (r i)) n = ct (pA q r true false) n + ct (pA q r false true) n
  | 0 => by simp [ct]
  | n + 1 => by
    have h := ct_pA q r n
    unfold ct
    have e : ∀ x y, pA q r x y n = ((q n == x) && (r n == y)) := fun _ _ => rfl
    rw [e, e, e, e]
    cases q n <;> cases r n <;> simp [pJ] <;> omega

