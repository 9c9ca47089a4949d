/-! Law's methods that stand on a text beside. -/
theorem LAm_ok {ad : Nat → Nat} : NOk (LAm ad) := ⟨fun _ _ h => h.at, fun _ _ _ hz h => h.narrow hz, fun _ _ _ _ hW hS h => h.moved hW hS, fun _ _ _ _ _ h => h.calling⟩
section LNS
variable {p : Program} {l : Launch} {e : Env} {R : Room} {s : State} {m : MethodId} {args : Array Value} {below : List Frame} {meth : Method} {c : Code} {cells slots : Nat} {Q : State → Prop} {n : Nat} {lv lv' : List (Nat × Value)} {st st0 : List Value} {cc : ByteArray} {Ts : List Cond} {own : String} {D : va_G} {C : Nat → ClassId} {K ad : Nat → Nat} {kL kH : Nat} {x : Int32} {u : CSt} {b : Nat → Bool} {q : LSt} {F : Nat → Int32} {hs : Nat → Bool} {G T : Nat → Nat → Int32} {mc ms : Nat}
variable {N : (Nat → Prop) → State → Prop} {sa sv nt : Nat} {ft : Nat → Int32}
def LEPN (N : (Nat → Prop) → State → Prop) (D : va_G) (C : Nat → ClassId) (K : Nat → Nat) (kL kH : Nat) (q : LSt) (_ : Nat) : State → Prop := fun U => LP D C K kL kH q U.heap ∧ va_K D vwCl (TY C) U ∧ N (LZ K kL kH) U
def LNi (l : Launch) (y : MethodName) (ws : List Cond) (rm : Room) (D : va_G) (C : Nat → ClassId) (K : Nat → Nat) (kL kH : Nat) (N : (Nat → Prop) → State → Prop) (As : List Value) (x : Int32) (F : Nat → Int32) (hs : Nat → Bool) (G T : Nat → Nat → Int32) (b : Nat → Bool) (post : Int32 → LSt → Prop) : Prop := ∀ sz : Nat, Met l y ws rm (va_Pc (.ref kL :: As) (zz_E (LEPN N D C K kL kH (x, (F, hs, G, T), b)) sz)) (va_Qi post (LWB D C K kL kH) (zz_A (LZ K kL kH) sz)) 0 0 (zz_A (LZ K kL kH) sz)
theorem LNi_of {y : MethodName} {ws ws' : List Cond} {rm : Room} {As : List Value} {post : Int32 → LSt → Prop} {maxL : Nat} {ret : Option FieldType} (hOk : NOk N) (hw : ws = Cond.code y cc maxL ret :: ws') (hy : plainName y.cls = true) (hn : (lg_sl (.ref kL :: As)).length ≤ maxL) (hlv : lv_args 0 (.ref kL :: As) = lv)
  (body : ∀ (p : Program) (e : Env) (s : State) (m : MethodId) (args : Array Value) (below : List Frame) (meth : Method) (c : Code), CCx p s m args c cc ws y.cls D C → N (zz_A (LZ K kL kH) s.heap.size) s → c.maxLocals = maxL → meth.sig.returnType = ret → meth.locks = false → ZZ p l e rm s m args below meth c 0 0 (MQ below (va_Qi post (LWB D C K kL kH) (zz_A (LZ K kL kH) s.heap.size)) args s 0 0 (zz_A (LZ K kL kH) s.heap.size)) (zz_A (LZ K kL kH) s.heap.size) (LP D C K kL kH (x, (F, hs, G, T), b)) maxL lv [] 0) : LNi l y ws rm D C K kL kH N As x F hs G T b post := by
  intro sz
  refine Met.ofW (cc := cc) (maxL := maxL) (ret := ret) hy hw ?_
  intro p e s m args below meth c s₁ B hml hv
  obtain ⟨rfl, rfl, hP, hK, hA⟩ := hv
  exact zz_enter (.ref kL :: As) maxL hn hlv hP (body p e s m _ below meth c ⟨⟨B.exec, B.bytes⟩, atoms_spec (ws := ws) B.pre, findClass_of_methodNamed B.named, hK⟩ (hOk.1 _ _ hA) hml B.returns B.notSynchronized)
/-- the address of a place of the law's world -/
theorem LZ_in (hKU : KU K) {z : Nat} (h : LZ K kL kH z) : ∃ (k : Nat) (y : Nat × va_E), (LW C K kL kH q)[k]? = some y ∧ y.1 = z := by
  have up : ∀ (k : Nat) (y : Nat × va_E), (DW C K q.2.1.1 (WH q.2.1.2.1) q.2.1.2.2.1 q.2.1.2.2.2)[k]? = some y → (LW C K kL kH q)[k]? = some y := fun k y hk => by
    unfold LW
    rw [List.getElem?_append_left (List.getElem?_eq_some_iff.mp hk).1]
    exact hk
  have h0 : ∃ (k : Nat) (y : Nat × va_E), (LW C K kL kH q)[k]? = some y ∧ y.1 = K 0 := ⟨0, _, up 0 _ ((DW_1 (by decide)).trans rfl), rfl⟩
  rcases h with ⟨k, hk, rfl⟩ | rfl | rfl
  · rcases hKU k hk with h1 | h1
    · rcases h1 with h1 | h1 | h1 | h1
      · have hc : k = 0 ∨ k = 1 ∨ k = 2 ∨ k = 3 ∨ k = 4 ∨ k = 5 ∨ k = 6 ∨ k = 7 ∨ k = 8 ∨ k = 9 ∨ k = 10 ∨ k = 11 ∨ k = 12 := by omega
        rcases hc with rfl | rfl | rfl | rfl | rfl | rfl | rfl | rfl | rfl | rfl | rfl | rfl | rfl
        · exact ⟨0, _, up 0 _ ((DW_1 (by decide)).trans rfl), rfl⟩
        · exact ⟨1, _, up 1 _ ((DW_1 (by decide)).trans rfl), rfl⟩
        · exact ⟨2, _, up 2 _ ((DW_1 (by decide)).trans rfl), rfl⟩
        · exact ⟨3, _, up 3 _ ((DW_1 (by decide)).trans rfl), rfl⟩
        · exact ⟨4, _, up 4 _ ((DW_1 (by decide)).trans rfl), rfl⟩
        · exact ⟨5, _, up 5 _ ((DW_1 (by decide)).trans rfl), rfl⟩
        · exact ⟨6, _, up 6 _ ((DW_1 (by decide)).trans rfl), rfl⟩
        · exact ⟨7, _, up 7 _ ((DW_1 (by decide)).trans rfl), rfl⟩
        · exact ⟨8, _, up 8 _ ((DW_1 (by decide)).trans rfl), rfl⟩
        · exact ⟨9, _, up 9 _ ((DW_1 (by decide)).trans rfl), rfl⟩
        · exact ⟨10, _, up 10 _ ((DW_1 (by decide)).trans rfl), rfl⟩
        · exact ⟨11, _, up 11 _ ((DW_1 (by decide)).trans rfl), rfl⟩
        · exact ⟨12, _, up 12 _ ((DW_1 (by decide)).trans rfl), rfl⟩
      · obtain ⟨j, hj, rfl⟩ : ∃ j, j < 8 ∧ k = 20 + j := ⟨k - 20, by omega, by omega⟩
        exact ⟨13 + j, _, up _ _ (DW_2 hj), rfl⟩
      · obtain ⟨j, hj, rfl⟩ : ∃ j, j < 8 ∧ k = 30 + j := ⟨k - 30, by omega, by omega⟩
        exact ⟨21 + j, _, up _ _ (DW_3 hj), rfl⟩
      · obtain ⟨j, hj, rfl⟩ : ∃ j, j < 100 ∧ k = 100 + j := ⟨k - 100, by omega, by omega⟩
        exact ⟨29 + j, _, up _ _ (DW_4 hj), rfl⟩
    · rw [h1]
      exact h0
  · exact ⟨129, _, LW_0, rfl⟩
  · exact ⟨130, _, LW_1, rfl⟩
/-- a cell beside the law's world has another address -/
theorem LW_not (hKU : KU K) {A : Nat → Prop} {w : va_W} (hD : va_D A (LW C K kL kH q ++ w)) {j : Nat} {y : Nat × va_E} (hj : w[j]? = some y) : ¬ LZ K kL kH y.1 := fun h => by
  obtain ⟨k, z, hk, hz⟩ := LZ_in (C := C) (q := q) hKU h
  have hlt := (List.getElem?_eq_some_iff.mp hk).1
  have := hD.1 k ((LW C K kL kH q).length + j) z y (by rw [List.getElem?_append_left hlt]; exact hk) (by rw [List.getElem?_append_right (Nat.le_add_right _ _), Nat.add_sub_cancel_left]; exact hj) hz
  omega
theorem LW_D2 {q' : LSt} (hAp : LAp K kL kH) {w : va_W} {sz : Nat} (hD : va_D (zz_A (LZ K kL kH) sz) (LW C K kL kH q ++ w)) : va_D (zz_A (LZ K kL kH) sz) (LW C K kL kH q' ++ w) := by
  have key : ∀ (k : Nat) (y : Nat × va_E), w[k]? = some y → (LW C K kL kH q ++ w)[(LW C K kL kH q).length + k]? = some y := fun k y hk => by rw [List.getElem?_append_right (Nat.le_add_right _ _), Nat.add_sub_cancel_left]; exact hk
  refine va_D.app (LW_D hAp sz) ⟨fun i j y z hi hj hyz => ?_, fun k y hk => hD.2 _ y (key k y hk)⟩ (fun i j y z hy hz hyz => ?_)
  · have := hD.1 _ _ y z (key i y hi) (key j z hj) hyz
    omega
  · refine LW_not hAp.2.2.2.2 hD hz ?_
    rw [← hyz]
    rcases Nat.lt_or_ge i 129 with h | h
    · refine Or.inl (DW_ad (C := C) (F := q'.2.1.1) (W := WH q'.2.1.2.1) (G := q'.2.1.2.2.1) (T := q'.2.1.2.2.2) (k := i) ?_)
      unfold LW at hy
      rw [List.getElem?_append_left (by rw [DW_len]; exact h)] at hy
      exact hy
    · unfold LW at hy
      rw [List.getElem?_append_right (by rw [DW_len]; exact h)] at hy
      rcases LWc_key hy with ⟨_, a2⟩ | ⟨_, a2⟩
      · exact Or.inr (Or.inl a2)
      · exact Or.inr (Or.inr a2)
theorem zz_toL {pc : Nat} (hAp : LAp K kL kH) (k : ZZ p l e R s m args below meth c cells slots Q (zz_A (LZ K kL kH) s.heap.size) (LPw (zz_A (LZ K kL kH) s.heap.size) D (LW C K kL kH q ++ [])) n lv st pc) : ZZ p l e R s m args below meth c cells slots Q (zz_A (LZ K kL kH) s.heap.size) (LP D C K kL kH q) n lv st pc := zz_world (fun H h => by rw [List.append_nil]; exact ⟨h, LW_D hAp _⟩) k
theorem zz_ofL {pc : Nat} {w : va_W} (k : ZZ p l e R s m args below meth c cells slots Q (zz_A (LZ K kL kH) s.heap.size) (LP D C K kL kH q) n lv st pc) : ZZ p l e R s m args below meth c cells slots Q (zz_A (LZ K kL kH) s.heap.size) (LPw (zz_A (LZ K kL kH) s.heap.size) D (LW C K kL kH q ++ w)) n lv st pc := zz_world (fun H h => P_left h.1) k
end LNS
/-! the text's letters, four to a number -/
def ac (t : Nat → Nat) (k : Nat) : Nat → Nat
  | 0 => 0
  | d + 1 => ac t k d * 256 + t (k + d)
theorem ac_lt {t : Nat → Nat} {k : Nat} (ht : ∀ j, 0 < t j ∧ t j < 128) : ∀ d, d ≤ 4 → ac t k d < 2 ^ 31 ∧ (d ≤ 3 → ac t k d * 256 < 2 ^ 31) := fun d hd => by
  have h0 := (ht (k + 0)).2
  have h1 := (ht (k + 1)).2
  have h2 := (ht (k + 2)).2
  have h3 := (ht (k + 3)).2
  have hc : d = 0 ∨ d = 1 ∨ d = 2 ∨ d = 3 ∨ d = 4 := by omega
  have e1 : ac t k 1 = 0 * 256 + t (k + 0) := rfl
  have e2 : ac t k 2 = ac t k 1 * 256 + t (k + 1) := rfl
  have e3 : ac t k 3 = ac t k 2 * 256 + t (k + 2) := rfl
  have e4 : ac t k 4 = ac t k 3 * 256 + t (k + 3) := rfl
  have e0 : ac t k 0 = 0 := rfl
  rcases hc with rfl | rfl | rfl | rfl | rfl
  · rw [e0]; omega
  · omega
  · omega
  · omega
  · omega
theorem nI_bv {a : Nat} (ha : a < 2 ^ 31) : (nI a).toBitVec.toNat = a := by
  show (Int32.ofNat a).toBitVec.toNat = a
  rw [Int32.toBitVec_ofNat', BitVec.toNat_ofNat]
  exact Nat.mod_eq_of_lt (by omega)
theorem or_nI {a x : Nat} (ha : a * 256 < 2 ^ 31) (hx : x < 128) : nI (a * 256) ||| nI x = nI (a * 256 + x) := by
  refine Int32.toBitVec_inj.mp (BitVec.eq_of_toNat_eq ?_)
  rw [Int32.toBitVec_or, BitVec.toNat_or, nI_bv ha, nI_bv (show x < 2 ^ 31 by omega), nI_bv (show a * 256 + x < 2 ^ 31 by omega)]
  have h := Nat.shiftLeft_add_eq_or_of_lt (i := 8) (show x < 2 ^ 8 by omega) a
  rw [Nat.shiftLeft_eq] at h
  exact h.symm
theorem sh_nI {a : Nat} (ha : a * 256 < 2 ^ 31) : nI a <<< (nI 8 &&& 31) = nI (a * 256) := pk_shlN (nI 8 &&& 31) 8 (by decide) (by omega)
theorem by8_nI {a j : Nat} (ha : a < 2 ^ 31) : by8 (nI a) j = a / 2 ^ (8 * j) % 256 := by
  unfold by8
  rw [nI_bv ha]
theorem t1_z {x : (Nat → Int32) × Nat} : t1 0 x = x := if_pos rfl
theorem t1_p {b0 : Nat} {x : (Nat → Int32) × Nat} (h : 0 < b0) : t1 b0 x = (upd x.1 x.2 (nI b0), x.2 + 1) := if_neg (by omega)
theorem t4_z {x : (Nat → Int32) × Nat} : t4 (nI 0) x = x := by
  unfold t4
  rw [show by8 (nI 0) 0 = 0 from by decide, show by8 (nI 0) 1 = 0 from by decide, show by8 (nI 0) 2 = 0 from by decide, show by8 (nI 0) 3 = 0 from by decide, t1_z, t1_z, t1_z, t1_z]
theorem nb_z : nb (nI 0) = 0 := by decide
theorem up_t {t : Nat → Nat} {g : Nat → Int32} {k : Nat} (h : ∀ j, j < k → g j = nI (t j)) : ∀ j, j < k + 1 → upd g k (nI (t k)) j = nI (t j) := fun j hj => by
  unfold upd
  by_cases z : j = k
  · rw [if_pos z, z]
  · rw [if_neg z]
    exact h j (by omega)
theorem t4_ac {t : Nat → Nat} {g : Nat → Int32} {k w : Nat} (ht : ∀ j, 0 < t j ∧ t j < 128) (hw : w ≤ 4) (h : ∀ j, j < k → g j = nI (t j)) : nb (nI (ac t k w)) = w ∧ ∀ j, j < k + w → (t4 (nI (ac t k w)) (g, k)).1 j = nI (t j) := by
  have h0 := ht (k + 0)
  have h1 := ht (k + 1)
  have h2 := ht (k + 2)
  have h3 := ht (k + 3)
  have hc : w = 0 ∨ w = 1 ∨ w = 2 ∨ w = 3 ∨ w = 4 := by omega
  have e0 : ac t k 0 = 0 := rfl
  have e1 : ac t k 1 = 0 * 256 + t (k + 0) := rfl
  have e2 : ac t k 2 = ac t k 1 * 256 + t (k + 1) := rfl
  have e3 : ac t k 3 = ac t k 2 * 256 + t (k + 2) := rfl
  have e4 : ac t k 4 = ac t k 3 * 256 + t (k + 3) := rfl
  have hl := (ac_lt (k := k) ht w hw).1
  have b0 : by8 (nI (ac t k w)) 0 = ac t k w % 256 := (by8_nI hl).trans (by rw [show 2 ^ (8 * 0) = 1 from rfl]; omega)
  have b1 : by8 (nI (ac t k w)) 1 = ac t k w / 256 % 256 := (by8_nI hl).trans rfl
  have b2 : by8 (nI (ac t k w)) 2 = ac t k w / 65536 % 256 := (by8_nI hl).trans rfl
  have b3 : by8 (nI (ac t k w)) 3 = ac t k w / 16777216 % 256 := (by8_nI hl).trans rfl
  have fin : ∀ (x : (Nat → Int32) × Nat), t4 (nI (ac t k w)) (g, k) = x → x.2 = k + w → (∀ j, j < k + w → x.1 j = nI (t j)) → nb (nI (ac t k w)) = w ∧ ∀ j, j < k + w → (t4 (nI (ac t k w)) (g, k)).1 j = nI (t j) := fun x hx hx2 hx1 => by
    have h2 := t4_2 (v := nI (ac t k w)) (x := (g, k))
    rw [hx] at h2
    refine ⟨?_, by rw [hx]; exact hx1⟩
    have : x.2 = k + nb (nI (ac t k w)) := h2
    omega
  unfold t4 at fin
  rw [b0, b1, b2, b3] at fin
  unfold t4
  rw [b0, b1, b2, b3]
  rcases hc with rfl | rfl | rfl | rfl | rfl
  · refine fin (g, k) ?_ rfl h
    rw [e0]
    show t1 0 (t1 0 (t1 0 (t1 0 (g, k)))) = _
    rw [t1_z, t1_z, t1_z, t1_z]
  · refine fin (upd g k (nI (t k)), k + 1) ?_ rfl (up_t h)
    rw [show ac t k 1 / 16777216 % 256 = 0 by omega, show ac t k 1 / 65536 % 256 = 0 by omega, show ac t k 1 / 256 % 256 = 0 by omega, show ac t k 1 % 256 = t (k + 0) by omega, t1_z, t1_z, t1_z, t1_p h0.1]
    rfl
  · refine fin (upd (upd g k (nI (t k))) (k + 1) (nI (t (k + 1))), k + 2) ?_ rfl (up_t (up_t h))
    rw [show ac t k 2 / 16777216 % 256 = 0 by omega, show ac t k 2 / 65536 % 256 = 0 by omega, show ac t k 2 / 256 % 256 = t (k + 0) by omega, show ac t k 2 % 256 = t (k + 1) by omega, t1_z, t1_z, t1_p h0.1, t1_p h1.1]
    rfl
  · refine fin (upd (upd (upd g k (nI (t k))) (k + 1) (nI (t (k + 1)))) (k + 2) (nI (t (k + 2))), k + 3) ?_ rfl (up_t (up_t (up_t h)))
    rw [show ac t k 3 / 16777216 % 256 = 0 by omega, show ac t k 3 / 65536 % 256 = t (k + 0) by omega, show ac t k 3 / 256 % 256 = t (k + 1) by omega, show ac t k 3 % 256 = t (k + 2) by omega, t1_z, t1_p h0.1, t1_p h1.1, t1_p h2.1]
    rfl
  · refine fin (upd (upd (upd (upd g k (nI (t k))) (k + 1) (nI (t (k + 1)))) (k + 2) (nI (t (k + 2)))) (k + 3) (nI (t (k + 3))), k + 4) ?_ rfl (up_t (up_t (up_t (up_t h))))
    rw [show ac t k 4 / 16777216 % 256 = t (k + 0) by omega, show ac t k 4 / 65536 % 256 = t (k + 1) by omega, show ac t k 4 / 256 % 256 = t (k + 2) by omega, show ac t k 4 % 256 = t (k + 3) by omega, t1_p h0.1, t1_p h1.1, t1_p h2.1, t1_p h3.1]
    rfl
theorem tx_in {t : Nat → Nat} {n j : Nat} (h : j < n) : tx t n j = nI (t j) := if_pos h
theorem tx_ex {t : Nat → Nat} {n : Nat} (ht : ∀ j, 0 < t j ∧ t j < 128) : ∀ j, j < n → ∃ x, x < 128 ∧ tx t n j = nI x := fun j hj => ⟨t j, (ht j).2, tx_in hj⟩

