/-! Law's methods that stand on a text beside. -/
theorem LAm_ok {ad : Nat → Nat} : NOk (LAm ad) := ⟨fun _ _ h => h.at, fun _ _ _ hz h => h.narrow hz, fun _ _ _ _ hW hS h => h.moved hW hS, fun _ _ _ _ _ h => h.calling⟩
section LNS
variable {p : Program} {l : Launch} {e : Env} {R : Room} {s : State} {m : MethodId} {args : Array Value} {below : List Frame} {meth : Method} {c : Code} {cells slots : Nat} {Q : State → Prop} {n : Nat} {lv lv' : List (Nat × Value)} {st st0 : List Value} {cc : ByteArray} {Ts : List Cond} {own : String} {D : va_G} {C : Nat → ClassId} {K ad : Nat → Nat} {kL kH : Nat} {x : Int32} {u : CSt} {b : Nat → Bool} {q : LSt} {F : Nat → Int32} {hs : Nat → Bool} {G T : Nat → Nat → Int32} {mc ms : Nat}
variable {N : (Nat → Prop) → State → Prop} {sa sv nt : Nat} {ft : Nat → Int32}
def LEPN (N : (Nat → Prop) → State → Prop) (D : va_G) (C : Nat → ClassId) (K : Nat → Nat) (kL kH : Nat) (q : LSt) (_ : Nat) : State → Prop := fun U => LPo D C K kL kH q U.heap ∧ va_K D vwCl (TY C) U ∧ N (LZ K kL kH) U
def LNi (l : Launch) (y : MethodName) (ws : List Cond) (rm : Room) (D : va_G) (C : Nat → ClassId) (K : Nat → Nat) (kL kH : Nat) (N : (Nat → Prop) → State → Prop) (As : List Value) (x : Int32) (F : Nat → Int32) (hs : Nat → Bool) (G T : Nat → Nat → Int32) (b : Nat → Bool) (post : Int32 → LSt → Prop) : Prop := ∀ sz : Nat, Met l y ws rm (va_Pc (.ref kL :: As) (zz_E (LEPN N D C K kL kH (x, (F, hs, G, T), b)) sz)) (va_Qi post (LWB D C K kL kH) (zz_A (LZ K kL kH) sz)) 0 0 (zz_A (LZ K kL kH) sz)
theorem LNi_of {y : MethodName} {ws ws' : List Cond} {rm : Room} {As : List Value} {post : Int32 → LSt → Prop} {maxL : Nat} {ret : Option FieldType} (hOk : NOk N) (hw : ws = Cond.code y cc maxL ret :: ws') (hy : plainName y.cls = true) (hn : (lg_sl (.ref kL :: As)).length ≤ maxL) (hlv : lv_args 0 (.ref kL :: As) = lv)
  (body : ∀ (p : Program) (e : Env) (s : State) (m : MethodId) (args : Array Value) (below : List Frame) (meth : Method) (c : Code), CCx p s m args c cc ws y.cls D C → N (zz_A (LZ K kL kH) s.heap.size) s → c.maxLocals = maxL → meth.sig.returnType = ret → meth.locks = false → ZZ p l e rm s m args below meth c 0 0 (MQ below (va_Qi post (LWB D C K kL kH) (zz_A (LZ K kL kH) s.heap.size)) args s 0 0 (zz_A (LZ K kL kH) s.heap.size)) (zz_A (LZ K kL kH) s.heap.size) (LPo D C K kL kH (x, (F, hs, G, T), b)) maxL lv [] 0) : LNi l y ws rm D C K kL kH N As x F hs G T b post := by
  intro sz
  refine Met.ofW (cc := cc) (maxL := maxL) (ret := ret) hy hw ?_
  intro p e s m args below meth c s₁ B hml hv
  obtain ⟨rfl, rfl, hP, hK, hA⟩ := hv
  exact zz_enter (.ref kL :: As) maxL hn hlv hP (body p e s m _ below meth c ⟨⟨B.exec, B.bytes⟩, atoms_spec (ws := ws) B.pre, findClass_of_methodNamed B.named, hK⟩ (hOk.1 _ _ hA) hml B.returns B.notSynchronized)
/-- the address of a place of the law's world -/
theorem LZ_in (hKU : KU K) {z : Nat} (h : LZ K kL kH z) : ∃ (k : Nat) (y : Nat × va_E), (LW C K kL kH q)[k]? = some y ∧ y.1 = z := by
  have up : ∀ (k : Nat) (y : Nat × va_E), (DW C K q.2.1.1 (WH q.2.1.2.1) q.2.1.2.2.1 q.2.1.2.2.2)[k]? = some y → (LW C K kL kH q)[k]? = some y := fun k y hk => by
    unfold LW
    rw [List.getElem?_append_left (List.getElem?_eq_some_iff.mp hk).1]
    exact hk
  have h0 : ∃ (k : Nat) (y : Nat × va_E), (LW C K kL kH q)[k]? = some y ∧ y.1 = K 0 := ⟨0, _, up 0 _ ((DW_1 (by decide)).trans rfl), rfl⟩
  rcases h with ⟨k, hk, rfl⟩ | rfl | rfl
  · rcases hKU k hk with h1 | h1
    · rcases h1 with h1 | h1 | h1 | h1
      · have hc : k = 0 ∨ k = 1 ∨ k = 2 ∨ k = 3 ∨ k = 4 ∨ k = 5 ∨ k = 6 ∨ k = 7 ∨ k = 8 ∨ k = 9 ∨ k = 10 ∨ k = 11 ∨ k = 12 := by omega
        rcases hc with rfl | rfl | rfl | rfl | rfl | rfl | rfl | rfl | rfl | rfl | rfl | rfl | rfl
        · exact ⟨0, _, up 0 _ ((DW_1 (by decide)).trans rfl), rfl⟩
        · exact ⟨1, _, up 1 _ ((DW_1 (by decide)).trans rfl), rfl⟩
        · exact ⟨2, _, up 2 _ ((DW_1 (by decide)).trans rfl), rfl⟩
        · exact ⟨3, _, up 3 _ ((DW_1 (by decide)).trans rfl), rfl⟩
        · exact ⟨4, _, up 4 _ ((DW_1 (by decide)).trans rfl), rfl⟩
        · exact ⟨5, _, up 5 _ ((DW_1 (by decide)).trans rfl), rfl⟩
        · exact ⟨6, _, up 6 _ ((DW_1 (by decide)).trans rfl), rfl⟩
        · exact ⟨7, _, up 7 _ ((DW_1 (by decide)).trans rfl), rfl⟩
        · exact ⟨8, _, up 8 _ ((DW_1 (by decide)).trans rfl), rfl⟩
        · exact ⟨9, _, up 9 _ ((DW_1 (by decide)).trans rfl), rfl⟩
        · exact ⟨10, _, up 10 _ ((DW_1 (by decide)).trans rfl), rfl⟩
        · exact ⟨11, _, up 11 _ ((DW_1 (by decide)).trans rfl), rfl⟩
        · exact ⟨12, _, up 12 _ ((DW_1 (by decide)).trans rfl), rfl⟩
      · obtain ⟨j, hj, rfl⟩ : ∃ j, j < 8 ∧ k = 20 + j := ⟨k - 20, by omega, by omega⟩
        exact ⟨13 + j, _, up _ _ (DW_2 hj), rfl⟩
      · obtain ⟨j, hj, rfl⟩ : ∃ j, j < 8 ∧ k = 30 + j := ⟨k - 30, by omega, by omega⟩
        exact ⟨21 + j, _, up _ _ (DW_3 hj), rfl⟩
      · obtain ⟨j, hj, rfl⟩ : ∃ j, j < 100 ∧ k = 100 + j := ⟨k - 100, by omega, by omega⟩
        exact ⟨29 + j, _, up _ _ (DW_4 hj), rfl⟩
    · rw [h1]
      exact h0
  · exact ⟨129, _, LW_0, rfl⟩
  · exact ⟨130, _, LW_1, rfl⟩
/-- a cell beside the law's world has another address -/
theorem LW_not (hKU : KU K) {A : Nat → Prop} {w : va_W} (hD : va_D A (LW C K kL kH q ++ w)) {j : Nat} {y : Nat × va_E} (hj : w[j]? = some y) : ¬ LZ K kL kH y.1 := fun h => by
  obtain ⟨k, z, hk, hz⟩ := LZ_in (C := C) (q := q) hKU h
  have hlt := (List.getElem?_eq_some_iff.mp hk).1
  have := hD.1 k ((LW C K kL kH q).length + j) z y (by rw [List.getElem?_append_left hlt]; exact hk) (by rw [List.getElem?_append_right (Nat.le_add_right _ _), Nat.add_sub_cancel_left]; exact hj) hz
  omega
theorem LW_D2 {q' : LSt} (hAp : LAp K kL kH) {w : va_W} {sz : Nat} (hD : va_D (zz_A (LZ K kL kH) sz) (LW C K kL kH q ++ w)) : va_D (zz_A (LZ K kL kH) sz) (LW C K kL kH q' ++ w) := by
  have key : ∀ (k : Nat) (y : Nat × va_E), w[k]? = some y → (LW C K kL kH q ++ w)[(LW C K kL kH q).length + k]? = some y := fun k y hk => by rw [List.getElem?_append_right (Nat.le_add_right _ _), Nat.add_sub_cancel_left]; exact hk
  refine va_D.app (LW_D hAp sz) ⟨fun i j y z hi hj hyz => ?_, fun k y hk => hD.2 _ y (key k y hk)⟩ (fun i j y z hy hz hyz => ?_)
  · have := hD.1 _ _ y z (key i y hi) (key j z hj) hyz
    omega
  · refine LW_not hAp.2.2.2.2 hD hz ?_
    rw [← hyz]
    rcases Nat.lt_or_ge i 129 with h | h
    · refine Or.inl (DW_ad (C := C) (F := q'.2.1.1) (W := WH q'.2.1.2.1) (G := q'.2.1.2.2.1) (T := q'.2.1.2.2.2) (k := i) ?_)
      unfold LW at hy
      rw [List.getElem?_append_left (by rw [DW_len]; exact h)] at hy
      exact hy
    · unfold LW at hy
      rw [List.getElem?_append_right (by rw [DW_len]; exact h)] at hy
      rcases LWc_key hy with ⟨_, a2⟩ | ⟨_, a2⟩
      · exact Or.inr (Or.inl a2)
      · exact Or.inr (Or.inr a2)
theorem zz_toL {pc : Nat} (hAp : LAp K kL kH) (k : ZZ p l e R s m args below meth c cells slots Q (zz_A (LZ K kL kH) s.heap.size) (LPw (zz_A (LZ K kL kH) s.heap.size) D (LW C K kL kH q ++ [])) n lv st pc) : ZZ p l e R s m args below meth c cells slots Q (zz_A (LZ K kL kH) s.heap.size) (LPo D C K kL kH q) n lv st pc := zz_world (fun H h => by rw [List.append_nil]; exact ⟨h, LW_D hAp _⟩) k
theorem zz_ofL {pc : Nat} {w : va_W} (k : ZZ p l e R s m args below meth c cells slots Q (zz_A (LZ K kL kH) s.heap.size) (LPo D C K kL kH q) n lv st pc) : ZZ p l e R s m args below meth c cells slots Q (zz_A (LZ K kL kH) s.heap.size) (LPw (zz_A (LZ K kL kH) s.heap.size) D (LW C K kL kH q ++ w)) n lv st pc := zz_world (fun H h => P_left h.1) k
theorem STx_new (X : CCx p s m args c cc Ts own D C) (hin : ∀ w ∈ u_ws RJ0 TJ0 4, w ∈ Ts) {Z : Nat → Prop} {w : va_W} {H : Heap} {j0 j1 : Nat} {i2 i3 : Int32} (hP : va_P D vwCl w H) (h0 : w[j0]? = some (sa, .inr (8, [.ref sv, .int (nI 0), .int i2, .int i3]))) (h1 : w[j1]? = some (sv, .inl (C 6, nt, .inl ft))) (hz0 : ¬ Z sa) (hz1 : ¬ Z sv) : va_O "java/lang/String" sa Z s H ∧ va_OF "java/lang/String" "coder" "B" (.int 0) sa Z s H ∧ va_OF "java/lang/String" "value" "[B" (.ref sv) sa Z s H ∧ va_T .byte sv nt (fun j => .int (ft j)) Z s H := by
  have hO : va_O "java/lang/String" sa Z s H := by
    obtain ⟨cell, a, b1, c1⟩ := va_recv X.2.2.2 hP (ci := 8) rfl h0
    exact ⟨cell, a, b1, c1, hz0⟩
  have hF : ∀ (k : Nat), k < 4 → ∀ v : Value, ([.ref sv, .int (nI 0), .int i2, .int i3] : List Value)[k]? = some v → va_OF (TJ0 k).1 (TJ0 k).2.1 (TJ0 k).2.2.1 v sa Z s H := fun k hk v hv => by
    obtain ⟨r, e1, cell, q1, q2, q3, q4⟩ := hP j0 _ h0
    have hr : r = (RJ0, TJ0, 4) := Option.some.inj (e1.symm.trans rfl)
    subst hr
    obtain ⟨hS, hfc, kC, hkC, hkind⟩ := X.2.2.2.1 8 (RJ0, TJ0, 4) rfl
    obtain ⟨cf, kf, fi, f1, hi, hsl⟩ := hS k hk
    refine ⟨cf, kf, fi, f1, cell, hi, (u_facts hfc hkC (u_lays X.2.1 hin hk) hi).1, q1, by rw [q3]; exact (fun h => by cases h), ?_, hz0⟩
    rw [hsl, q4 k hk]
    show some (([.ref sv, .int (nI 0), .int i2, .int i3] : List Value).getD k .null) = some v
    rw [List.getD_eq_getElem?_getD, hv]
    rfl
  refine ⟨hO, hF 1 (by decide) _ rfl, hF 0 (by decide) _ rfl, ?_⟩
  have hA : va_at D vwCl (sv, .inl (C 6, nt, .inl ft)) H := hP j1 _ h1
  exact ⟨arrV (C 6) nt (fun j => .int (ft j)), hA, (X.2.2.2.2 6 (C 6, .byte) rfl).1 nt _, (fun h => by cases h), Nat.le_of_eq (arrV_size _ _ _).symm, by rw [arrV_size], fun j hj => arrV_read _ _ hj, hz1⟩
theorem ll_callN (pc : Nat) (X : CCx p s m args c cc Ts own D C) (hLA : LAm ad (zz_A (LZ K kL kH) s.heap.size) s) (hml : c.maxLocals = n) (hAp : LAp K kL kH) (hin : ∀ w ∈ u_ws RJ0 TJ0 4, w ∈ Ts) {w : va_W} {j0 j1 : Nat} {i2 i3 : Int32} (h0 : w[j0]? = some (sa, .inr (8, [.ref sv, .int (nI 0), .int i2, .int i3]))) (h1 : w[j1]? = some (sv, .inl (C 6, nt, .inl ft))) {y : MethodName} {ws ws' : List Cond} {rm : Room} {As : List Value} {post : Int32 → LSt → Prop} {maxL index na : Nat} {ret : Option FieldType} {bytes : ByteArray} (hM : LNi l y ws rm D C K kL kH (fun Z U => LAm ad Z U ∧ STx sa sv nt ft Z U) As x F hs G T b post) (g : GoodIn Ts (wsV own index RL y ws)) (hw : ws = Cond.code y bytes maxL ret :: ws') (hr : rm.cells = 0 ∧ rm.slots = 0)
  (hd1 : y.cls = RL ∧ y.cls ≠ "java/lang/invoke/MethodHandle" ∧ y.cls ≠ "java/lang/invoke/VarHandle" ∧ (parseMethodDescriptor y.desc).map (fun d => d.parameters.length) = some na) (hR : rm.frames + 1 ≤ R.frames ∧ 8 + (maxL + 11) + rm.locals ≤ R.locals) (hn : As.length = na) (hs0 : st0 = As.reverse ++ .ref kL :: st) (hwd : (st.map fun v => v.category).sum ≤ 8) (hf : cells ≤ R.cells ∧ slots ≤ R.slots) (hd : decode cc pc = .ok (.invokevirtual index, 3))
  (kk : ∀ (r : Int32) (q : LSt), post r q → ZZ p l e R s m args below meth c cells slots Q (zz_A (LZ K kL kH) s.heap.size) (LPw (zz_A (LZ K kL kH) s.heap.size) D (LW C K kL kH q ++ w)) n lv (.int r :: st) (pc + 3)) : ZZ p l e R s m args below meth c cells slots Q (zz_A (LZ K kL kH) s.heap.size) (LPw (zz_A (LZ K kL kH) s.heap.size) D (LW C K kL kH (x, (F, hs, G, T), b) ++ w)) n lv st0 pc :=
  zz_callViW (nL := 0) (P' := fun q => LPw (zz_A (LZ K kL kH) s.heap.size) D (LW C K kL kH q ++ w)) pc ⟨X.1.1, X.1.2, hml, X.2.2.1, X.2.1⟩ hM (cwV na X.2.1 g hw hr.1 hr.2 hd1 hR) (fun H h => lr_L X H (P_left h.1))
    (fun sz U g mk a q => ⟨q.1, va_K.moved (u := U) (U := U.calling g mk a) (Vm.Alike.refl U.vm) q.2.1, (LAm_ok.and STx_ok).2.2.2 _ _ _ _ _ q.2.2⟩) (fun H locs U hP hS hU hW => by
      have hL := (hLA.moved hW (by rw [hU]; exact hS)).narrow (Y := LZ K kL kH) (fun q h => Or.inl h)
      have hT := STx_new (Z := LZ K kL kH) X hin (P_right hP.1) h0 h1 (LW_not hAp.2.2.2.2 hP.2 h0) (LW_not hAp.2.2.2.2 hP.2 h1)
      subst hU
      exact ⟨P_left hP.1, va_K.moved hW.alike X.2.2.2, hL, ⟨va_O.moved hW.alike hT.1, va_OF.moved hW.alike hT.2.1, va_OF.moved hW.alike hT.2.2.1, va_T.moved hW.alike hT.2.2.2⟩, hL.2.1.2.2⟩) (fun q h => Or.inl h) (fun q h => Or.inr h)
    (fun q H t hP hB _ _ hk => ⟨va_P.app hB (va_P.kept (P_right hP.1) (fun k z hz => hk z.1 (va_at.lt (P_right hP.1 k z hz)) (fun h => h.elim (LW_not hAp.2.2.2.2 hP.2 hz) (fun h => absurd (va_at.lt (P_right hP.1 k z hz)) (Nat.not_lt.mpr h))))), LW_D2 hAp hP.2⟩) hn hs0 hwd hf hd kk
theorem zl_tail {pc0 : Nat} {A : Nat → Prop} {R0 w w' : va_W} (is : List Nat) (hs1 : is.filterMap (fun i => w[i]?) = w') (hn : va_nd is = true) (hs2 : is.map (fun i => w[i]?) = w'.map some) (k : ZZ p l e R s m args below meth c cells slots Q A (LPw A D (R0 ++ w')) n lv st pc0) : ZZ p l e R s m args below meth c cells slots Q A (LPw A D (R0 ++ w)) n lv st pc0 := zz_world (fun H h => by
  have key : ∀ (k : Nat) (y : Nat × va_E), w[k]? = some y → (R0 ++ w)[R0.length + k]? = some y := fun k y hk => by rw [List.getElem?_append_right (Nat.le_add_right _ _), Nat.add_sub_cancel_left]; exact hk
  have hDw : va_D A w := ⟨fun i j y z hi hj hyz => by have := h.2.1 _ _ y z (key i y hi) (key j z hj) hyz; omega, fun k y hk => h.2.2 _ y (key k y hk)⟩
  refine ⟨va_P.app (P_left h.1) ((P_right h.1).sub is hs1), va_D.app (D_left h.2) (hDw.sub is hn hs2) (fun i j y z hy hz hyz => ?_)⟩
  subst hs1
  obtain ⟨i1, -, hi1⟩ := List.mem_filterMap.mp (List.mem_of_getElem? hz)
  have hlt := (List.getElem?_eq_some_iff.mp hy).1
  have := h.2.1 i (R0.length + i1) y z (by rw [List.getElem?_append_left hlt]; exact hy) (key i1 z hi1) hyz
  omega) k
theorem LW_at {w : va_W} {q0 : LSt} {j : Nat} : (LW C K kL kH q0 ++ w)[131 + j]? = w[j]? := by
  have h : (LW C K kL kH q0).length = 131 := by
    unfold LW
    rw [List.length_append, DW_len]
    rfl
  rw [List.getElem?_append_right (by rw [h]; exact Nat.le_add_right _ _), h, Nat.add_sub_cancel_left]
end LNS
/-! the text's letters, four to a number -/
def ac (t : Nat → Nat) (k : Nat) : Nat → Nat
  | 0 => 0
  | d + 1 => ac t k d * 256 + t (k + d)
theorem ac_lt {t : Nat → Nat} {k : Nat} (ht : ∀ j, 0 < t j ∧ t j < 128) : ∀ d, d ≤ 4 → ac t k d < 2 ^ 31 ∧ (d ≤ 3 → ac t k d * 256 < 2 ^ 31) := fun d hd => by
  have h0 := (ht (k + 0)).2
  have h1 := (ht (k + 1)).2
  have h2 := (ht (k + 2)).2
  have h3 := (ht (k + 3)).2
  have hc : d = 0 ∨ d = 1 ∨ d = 2 ∨ d = 3 ∨ d = 4 := by omega
  have e1 : ac t k 1 = 0 * 256 + t (k + 0) := rfl
  have e2 : ac t k 2 = ac t k 1 * 256 + t (k + 1) := rfl
  have e3 : ac t k 3 = ac t k 2 * 256 + t (k + 2) := rfl
  have e4 : ac t k 4 = ac t k 3 * 256 + t (k + 3) := rfl
  have e0 : ac t k 0 = 0 := rfl
  rcases hc with rfl | rfl | rfl | rfl | rfl
  · rw [e0]; omega
  · omega
  · omega
  · omega
  · omega
theorem nI_bv {a : Nat} (ha : a < 2 ^ 31) : (nI a).toBitVec.toNat = a := by
  show (Int32.ofNat a).toBitVec.toNat = a
  rw [Int32.toBitVec_ofNat', BitVec.toNat_ofNat]
  exact Nat.mod_eq_of_lt (by omega)
theorem or_nI {a x : Nat} (ha : a * 256 < 2 ^ 31) (hx : x < 128) : nI (a * 256) ||| nI x = nI (a * 256 + x) := by
  refine Int32.toBitVec_inj.mp (BitVec.eq_of_toNat_eq ?_)
  have l2 : x < 2 ^ 31 := by omega
  have h1 : a * 256 ≤ 2147483392 := by omega
  have l3 : a * 256 + x < 2 ^ 31 := Nat.lt_of_lt_of_le (Nat.add_lt_add_of_le_of_lt h1 hx) (by decide)
  have e1 := nI_bv ha
  have e2 := nI_bv l2
  have e3 := nI_bv l3
  rw [Int32.toBitVec_or, BitVec.toNat_or, e1, e2, e3]
  have h := Nat.shiftLeft_add_eq_or_of_lt (i := 8) (show x < 2 ^ 8 by omega) a
  rw [Nat.shiftLeft_eq] at h
  exact h.symm
theorem sh_nI {a : Nat} (ha : a * 256 < 2 ^ 31) : nI a <<< (nI 8 &&& 31) = nI (a * 256) := pk_shlN (nI 8 &&& 31) 8 (by decide) (by omega)
theorem by8_nI {a j : Nat} (ha : a < 2 ^ 31) : by8 (nI a) j = a / 2 ^ (8 * j) % 256 := by
  unfold by8
  rw [nI_bv ha]
theorem t1_z {x : (Nat → Int32) × Nat} : t1 0 x = x := if_pos rfl
theorem t1_p {b0 : Nat} {x : (Nat → Int32) × Nat} (h : 0 < b0) : t1 b0 x = (upd x.1 x.2 (nI b0), x.2 + 1) := if_neg (by omega)
theorem t4_z {x : (Nat → Int32) × Nat} : t4 (nI 0) x = x := by
  unfold t4
  rw [show by8 (nI 0) 0 = 0 from by decide, show by8 (nI 0) 1 = 0 from by decide, show by8 (nI 0) 2 = 0 from by decide, show by8 (nI 0) 3 = 0 from by decide, t1_z, t1_z, t1_z, t1_z]
theorem nb_z : nb (nI 0) = 0 := by decide
theorem up_t {t : Nat → Nat} {g : Nat → Int32} {k : Nat} (h : ∀ j, j < k → g j = nI (t j)) : ∀ j, j < k + 1 → upd g k (nI (t k)) j = nI (t j) := fun j hj => by
  unfold upd
  by_cases z : j = k
  · rw [if_pos z, z]
  · rw [if_neg z]
    exact h j (by omega)
theorem t4_ac {t : Nat → Nat} {g : Nat → Int32} {k w : Nat} (ht : ∀ j, 0 < t j ∧ t j < 128) (hw : w ≤ 4) (h : ∀ j, j < k → g j = nI (t j)) : nb (nI (ac t k w)) = w ∧ ∀ j, j < k + w → (t4 (nI (ac t k w)) (g, k)).1 j = nI (t j) := by
  have h0 := ht (k + 0)
  have h1 := ht (k + 1)
  have h2 := ht (k + 2)
  have h3 := ht (k + 3)
  have hc : w = 0 ∨ w = 1 ∨ w = 2 ∨ w = 3 ∨ w = 4 := by omega
  have e0 : ac t k 0 = 0 := rfl
  have e1 : ac t k 1 = 0 * 256 + t (k + 0) := rfl
  have e2 : ac t k 2 = ac t k 1 * 256 + t (k + 1) := rfl
  have e3 : ac t k 3 = ac t k 2 * 256 + t (k + 2) := rfl
  have e4 : ac t k 4 = ac t k 3 * 256 + t (k + 3) := rfl
  have hl := (ac_lt (k := k) ht w hw).1
  have b0 : by8 (nI (ac t k w)) 0 = ac t k w % 256 := (by8_nI hl).trans (by rw [show 2 ^ (8 * 0) = 1 from rfl]; omega)
  have b1 : by8 (nI (ac t k w)) 1 = ac t k w / 256 % 256 := (by8_nI hl).trans rfl
  have b2 : by8 (nI (ac t k w)) 2 = ac t k w / 65536 % 256 := (by8_nI hl).trans rfl
  have b3 : by8 (nI (ac t k w)) 3 = ac t k w / 16777216 % 256 := (by8_nI hl).trans rfl
  have fin : ∀ (x : (Nat → Int32) × Nat), t4 (nI (ac t k w)) (g, k) = x → x.2 = k + w → (∀ j, j < k + w → x.1 j = nI (t j)) → nb (nI (ac t k w)) = w ∧ ∀ j, j < k + w → (t4 (nI (ac t k w)) (g, k)).1 j = nI (t j) := fun x hx hx2 hx1 => by
    have h2 := t4_2 (v := nI (ac t k w)) (x := (g, k))
    rw [hx] at h2
    refine ⟨?_, by rw [hx]; exact hx1⟩
    have : x.2 = k + nb (nI (ac t k w)) := h2
    omega
  unfold t4 at fin
  rw [b0, b1, b2, b3] at fin
  unfold t4
  rw [b0, b1, b2, b3]
  rcases hc with rfl | rfl | rfl | rfl | rfl
  · refine fin (g, k) ?_ rfl h
    rw [e0]
    show t1 0 (t1 0 (t1 0 (t1 0 (g, k)))) = _
    rw [t1_z, t1_z, t1_z, t1_z]
  · refine fin (upd g k (nI (t k)), k + 1) ?_ rfl (up_t h)
    rw [show ac t k 1 / 16777216 % 256 = 0 by omega, show ac t k 1 / 65536 % 256 = 0 by omega, show ac t k 1 / 256 % 256 = 0 by omega, show ac t k 1 % 256 = t (k + 0) by omega, t1_z, t1_z, t1_z, t1_p h0.1]
    rfl
  · refine fin (upd (upd g k (nI (t k))) (k + 1) (nI (t (k + 1))), k + 2) ?_ rfl (up_t (up_t h))
    rw [show ac t k 2 / 16777216 % 256 = 0 by omega, show ac t k 2 / 65536 % 256 = 0 by omega, show ac t k 2 / 256 % 256 = t (k + 0) by omega, show ac t k 2 % 256 = t (k + 1) by omega, t1_z, t1_z, t1_p h0.1, t1_p h1.1]
    rfl
  · refine fin (upd (upd (upd g k (nI (t k))) (k + 1) (nI (t (k + 1)))) (k + 2) (nI (t (k + 2))), k + 3) ?_ rfl (up_t (up_t (up_t h)))
    rw [show ac t k 3 / 16777216 % 256 = 0 by omega, show ac t k 3 / 65536 % 256 = t (k + 0) by omega, show ac t k 3 / 256 % 256 = t (k + 1) by omega, show ac t k 3 % 256 = t (k + 2) by omega, t1_z, t1_p h0.1, t1_p h1.1, t1_p h2.1]
    rfl
  · refine fin (upd (upd (upd (upd g k (nI (t k))) (k + 1) (nI (t (k + 1)))) (k + 2) (nI (t (k + 2)))) (k + 3) (nI (t (k + 3))), k + 4) ?_ rfl (up_t (up_t (up_t (up_t h))))
    rw [show ac t k 4 / 16777216 % 256 = t (k + 0) by omega, show ac t k 4 / 65536 % 256 = t (k + 1) by omega, show ac t k 4 / 256 % 256 = t (k + 2) by omega, show ac t k 4 % 256 = t (k + 3) by omega, t1_p h0.1, t1_p h1.1, t1_p h2.1, t1_p h3.1]
    rfl
theorem tx_in {t : Nat → Nat} {n j : Nat} (h : j < n) : tx t n j = nI (t j) := if_pos h
theorem tx_ex {t : Nat → Nat} {n : Nat} (ht : ∀ j, 0 < t j ∧ t j < 128) : ∀ j, j < n → ∃ x, x < 128 ∧ tx t n j = nI x := fun j hj => ⟨t j, (ht j).2, tx_in hj⟩

