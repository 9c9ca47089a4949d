/-! The law's calls: the class's methods in their wrappers; the two worlds beside each other. -/
section LMS
variable {p : Program} {l : Launch} {e : Env} {R : Room} {s : State} {m : MethodId} {args : Array Value} {below : List Frame} {meth : Method} {c : Code} {cells slots : Nat} {Q : State → Prop} {n : Nat} {lv lv' : List (Nat × Value)} {st st0 : List Value} {cc : ByteArray} {Ts : List Cond} {own : String} {D : va_G} {C : Nat → ClassId} {cD : ClassId} {K KR : Nat → Nat} {A : Nat → Prop} {adK adV : Nat → Nat} {ao ad : Nat} {u : CSt} {v : MSt} {o : Int64} {od : UInt64}
def CP (D : va_G) (C : Nat → ClassId) (K : Nat → Nat) (u : CSt) : Heap → Prop := DP D C K u.1 (WH u.2.1) u.2.2.1 u.2.2.2
def MP (D : va_G) (C : Nat → ClassId) (K : Nat → Nat) (v : MSt) : Heap → Prop := RP D C K v.1 v.2.1 v.2.2.1 v.2.2.2
def OLn (C : Nat → ClassId) (ao : Nat) (o : Int64) : va_W := [(ao, .inl (C 2, 1, .inr (.inl (fun _ => o))))]
def ODn (cD : ClassId) (ad : Nat) (o : UInt64) : va_W := [(ad, .inl (cD, 1, .inr (.inr (.inr (.inl (fun _ => o))))))]
def DOd (K : Nat → Nat) (ao : Nat) : Nat → Prop := fun q => DAd K q ∨ q = ao
def NCx (U : State) : Prop := va_Nc "java/lang/IndexOutOfBoundsException" "java/lang/IllegalArgumentException" U ∧ va_Nc "java/lang/IllegalStateException" "java/lang/IllegalArgumentException" U
theorem NCx.moved {U : State} (hvm : s.vm.Alike U.vm) (h : NCx s) : NCx U := ⟨va_Nc.moved hvm h.1, va_Nc.moved hvm h.2⟩
/-- what a wrapper's start holds -/
def LE (D : va_G) (C : Nat → ClassId) (cD : ClassId) (K adK adV : Nat → Nat) (ao : Nat) (u : CSt) (ol : va_W) (_ : Nat) : State → Prop := fun U => (CP D C K u U.heap ∧ va_P D vwCl ol U.heap) ∧ va_K D vwCl (TY C) U ∧ va_K D vwCl [(cD, .double)] U ∧ AM (DOd K ao) U ∧ ASx adK adV (DOd K ao) U ∧ NCx U
def LM {τ : Type} (l : Launch) (y : MethodName) (ws : List Cond) (rm : Room) (D : va_G) (C : Nat → ClassId) (cD : ClassId) (K adK adV : Nat → Nat) (ao : Nat) (wl : τ → va_W) (As : List Value) (u0 : CSt) (o0 : τ) (post : Int32 → CSt × τ → Prop) : Prop := ∀ sz : Nat, Met l y ws rm (va_Pc (.ref (K 0) :: (As ++ [.ref ao])) (zz_E (LE D C cD K adK adV ao u0 (wl o0)) sz)) (va_Qi post (fun q t => CP D C K q.1 t.heap ∧ va_P D vwCl (wl q.2) t.heap) (zz_A (DOd K ao) sz)) 1 6 (zz_A (DOd K ao) sz)
theorem LM_of {τ : Type} {y : MethodName} {ws ws' : List Cond} {rm : Room} {wl : τ → va_W} {As : List Value} {o0 : τ} {post : Int32 → CSt × τ → Prop} {maxL : Nat} {ret : Option FieldType} {hh : List (Nat × Nat × Nat × Nat)} (hw : ws = Cond.codeWith y cc maxL ret hh :: ws') (hy : plainName y.cls = true) (hn : (lg_sl (.ref (K 0) :: (As ++ [.ref ao]))).length ≤ maxL) (hlv : lv_args 0 (.ref (K 0) :: (As ++ [.ref ao])) = lv)
  (body : ∀ (p : Program) (e : Env) (s : State) (m : MethodId) (args : Array Value) (below : List Frame) (meth : Method) (c : Code), CCx p s m args c cc ws y.cls D C → va_K D vwCl [(cD, .double)] s → AM (zz_A (DOd K ao) s.heap.size) s → ASx adK adV (zz_A (DOd K ao) s.heap.size) s → NCx s → c.exceptionTable.toList = tableOf hh → c.maxLocals = maxL → meth.sig.returnType = ret → meth.locks = false → ZZ p l e rm s m args below meth c 0 0 (MQ below (va_Qi post (fun q t => CP D C K q.1 t.heap ∧ va_P D vwCl (wl q.2) t.heap) (zz_A (DOd K ao) s.heap.size)) args s 1 6 (zz_A (DOd K ao) s.heap.size)) (zz_A (DOd K ao) s.heap.size) (fun H => CP D C K u H ∧ va_P D vwCl (wl o0) H) maxL lv [] 0) : LM l y ws rm D C cD K adK adV ao wl As u o0 post := by
  intro sz
  have hmem : Cond.codeWith y cc maxL ret hh ∈ ws := by
    rw [hw]
    exact List.mem_cons_self
  refine va_MetW (cc := cc) (maxL := maxL) (ret := ret) (hh := hh) hy hw ?_
  intro p e s m args below meth c s₁ B hml hv
  obtain ⟨ha, hsz, hP, hK, hKd, hA, hB, hN⟩ := hv
  subst ha
  subst hsz
  have h1 := vx_table (x := y) B (atoms_spec (ws := ws) B.pre _ hmem)
  have h2 : CCx p s m _ c cc ws y.cls D C := ⟨⟨B.exec, B.bytes⟩, atoms_spec (ws := ws) B.pre, findClass_of_methodNamed B.named, hK⟩
  have h3 := body p e s m _ below meth c h2 hKd hA.at hB.at hN h1 hml B.returns B.notSynchronized
  have h4 := zz_enter (R := rm) (P := fun H => CP D C K u H ∧ va_P D vwCl (wl o0) H) (.ref (K 0) :: (As ++ [.ref ao])) maxL hn hlv hP h3
  exact h4
theorem one_at {ol : va_W} {k : Nat} {q : Nat × va_E} (h : ol.map Prod.fst = [ao]) (hk : ol[k]? = some q) : q.1 = ao := by
  have h1 : q.1 ∈ ol.map Prod.fst := List.mem_map.mpr ⟨q, List.mem_of_getElem? hk, rfl⟩
  rw [h] at h1
  exact List.mem_singleton.mp h1
theorem one_kept {ol : va_W} {H H1 : Heap} {Z : Nat → Prop} (h : ol.map Prod.fst = [ao]) (hP : va_P D vwCl ol H) (hk : ∀ q : Nat, q < H.size → ¬ Z q → H1[q]? = H[q]?) (hz : ao < H.size → ¬ Z ao) : va_P D vwCl ol H1 := va_P.kept hP (fun k q hq => by
  have e := one_at h hq
  have hlt := va_at.lt (hP k q hq)
  exact hk q.1 hlt (e ▸ hz (e ▸ hlt)))
theorem CP_kept {H H1 : Heap} {Z : Nat → Prop} (hP : CP D C K u H) (hk : ∀ q : Nat, q < H.size → ¬ Z q → H1[q]? = H[q]?) (hz : ∀ q, DAd K q → q < H.size → ¬ Z q) : CP D C K u H1 := va_P.kept hP (fun k q hq => hk q.1 (va_at.lt (hP k q hq)) (hz q.1 (DW_ad hq) (va_at.lt (hP k q hq))))
theorem MP_kept {H H1 : Heap} {Z : Nat → Prop} (hP : MP D C K v H) (hk : ∀ q : Nat, q < H.size → ¬ Z q → H1[q]? = H[q]?) (hz : ∀ q, RAd K q → q < H.size → ¬ Z q) : MP D C K v H1 := va_P.kept hP (fun k q hq => hk q.1 (va_at.lt (hP k q hq)) (hz q.1 (RW_ad hq) (va_at.lt (hP k q hq))))
theorem nz_A {Z : Nat → Prop} {q sz : Nat} (h : ¬ Z q) (hlt : q < sz) : ¬ zz_A Z sz q := fun z => z.elim h (fun z => absurd hlt (Nat.not_lt.mpr z))
/-- a class's method called in a wrapper: it answers -/
theorem lm_calli {ol : va_W} (pc : Nat) (X : CCx p s m args c cc Ts own D C) (hml : c.maxLocals = n) (hao : ¬ DAd K ao) (hol : ol.map Prod.fst = [ao]) {y : MethodName} {ws ws' : List Cond} {rm : Room} {As : List Value} {post : Int32 → CSt → Prop} {maxL index na : Nat} {ret : Option FieldType} {bytes : ByteArray} (hM : CMi l y ws rm D C K 0 As u.1 u.2.1 u.2.2.1 u.2.2.2 post) (g : GoodIn Ts (wsV own index RX6 y ws)) (hw : ws = Cond.code y bytes maxL ret :: ws') (hr : rm.cells = 0 ∧ rm.slots = 0)
  (hd1 : y.cls = RX6 ∧ y.cls ≠ "java/lang/invoke/MethodHandle" ∧ y.cls ≠ "java/lang/invoke/VarHandle" ∧ (parseMethodDescriptor y.desc).map (fun d => d.parameters.length) = some na) (hR : rm.frames + 1 ≤ R.frames ∧ 8 + (maxL + 11) + rm.locals ≤ R.locals) (hn : As.length = na) (hs0 : st0 = As.reverse ++ .ref (K 0) :: st) (hwd : (st.map fun v => v.category).sum ≤ 8) (hf : cells ≤ R.cells ∧ slots ≤ R.slots) (hd : decode cc pc = .ok (.invokevirtual index, 3))
  (kk : ∀ (r : Int32) (q : CSt), post r q → ZZ p l e R s m args below meth c cells slots Q (zz_A (DOd K ao) s.heap.size) (fun H => CP D C K q H ∧ va_P D vwCl ol H) n lv (.int r :: st) (pc + 3)) : ZZ p l e R s m args below meth c cells slots Q (zz_A (DOd K ao) s.heap.size) (fun H => CP D C K u H ∧ va_P D vwCl ol H) n lv st0 pc :=
  zz_callVi (nL := 0) (P' := fun q H => CP D C K q H ∧ va_P D vwCl ol H) pc ⟨X.1.1, X.1.2, hml, X.2.2.1, X.2.1⟩ hM (cwV na X.2.1 g hw hr.1 hr.2 hd1 hR) (fun H h => dr_0 X H h.1)
    (fun sz U g mk a q => ⟨q.1, va_K.moved (u := U) (U := U.calling g mk a) (Vm.Alike.refl U.vm) q.2⟩) (fun H locs U hP hS hU hA => ⟨by rw [hU]; exact hP.1, va_K.moved hA X.2.2.2⟩) (fun q h => Or.inl (Or.inl h)) (fun q h => Or.inr h) (fun q H t hP hB _ _ hk => ⟨hB, one_kept hol hP.2 hk (nz_A hao)⟩) hn hs0 hwd hf hd kk
theorem lm_calll {ol : va_W} (pc : Nat) (X : CCx p s m args c cc Ts own D C) (hml : c.maxLocals = n) (hao : ¬ DAd K ao) (hol : ol.map Prod.fst = [ao]) {y : MethodName} {ws ws' : List Cond} {rm : Room} {As : List Value} {post : Int64 → CSt → Prop} {maxL index na : Nat} {ret : Option FieldType} {bytes : ByteArray} (hM : CMl l y ws rm D C K 0 As u.1 u.2.1 u.2.2.1 u.2.2.2 post) (g : GoodIn Ts (wsV own index RX6 y ws)) (hw : ws = Cond.code y bytes maxL ret :: ws') (hr : rm.cells = 0 ∧ rm.slots = 0)
  (hd1 : y.cls = RX6 ∧ y.cls ≠ "java/lang/invoke/MethodHandle" ∧ y.cls ≠ "java/lang/invoke/VarHandle" ∧ (parseMethodDescriptor y.desc).map (fun d => d.parameters.length) = some na) (hR : rm.frames + 1 ≤ R.frames ∧ 8 + (maxL + 11) + rm.locals ≤ R.locals) (hn : As.length = na) (hs0 : st0 = As.reverse ++ .ref (K 0) :: st) (hwd : (st.map fun v => v.category).sum ≤ 8) (hf : cells ≤ R.cells ∧ slots ≤ R.slots) (hd : decode cc pc = .ok (.invokevirtual index, 3))
  (kk : ∀ (r : Int64) (q : CSt), post r q → ZZ p l e R s m args below meth c cells slots Q (zz_A (DOd K ao) s.heap.size) (fun H => CP D C K q H ∧ va_P D vwCl ol H) n lv (.long r :: st) (pc + 3)) : ZZ p l e R s m args below meth c cells slots Q (zz_A (DOd K ao) s.heap.size) (fun H => CP D C K u H ∧ va_P D vwCl ol H) n lv st0 pc :=
  zz_callVl (nL := 0) (P' := fun q H => CP D C K q H ∧ va_P D vwCl ol H) pc ⟨X.1.1, X.1.2, hml, X.2.2.1, X.2.1⟩ hM (cwV na X.2.1 g hw hr.1 hr.2 hd1 hR) (fun H h => dr_0 X H h.1)
    (fun sz U g mk a q => ⟨q.1, va_K.moved (u := U) (U := U.calling g mk a) (Vm.Alike.refl U.vm) q.2⟩) (fun H locs U hP hS hU hA => ⟨by rw [hU]; exact hP.1, va_K.moved hA X.2.2.2⟩) (fun q h => Or.inl (Or.inl h)) (fun q h => Or.inr h) (fun q H t hP hB _ _ hk => ⟨hB, one_kept hol hP.2 hk (nz_A hao)⟩) hn hs0 hwd hf hd kk
theorem lm_callf {ol : va_W} (pc : Nat) (X : CCx p s m args c cc Ts own D C) (hml : c.maxLocals = n) (hao : ¬ DAd K ao) (hol : ol.map Prod.fst = [ao]) {y : MethodName} {ws ws' : List Cond} {rm : Room} {As : List Value} {post : UInt32 → CSt → Prop} {maxL index na : Nat} {ret : Option FieldType} {bytes : ByteArray} (hM : CMf l y ws rm D C K 0 As u.1 u.2.1 u.2.2.1 u.2.2.2 post) (g : GoodIn Ts (wsV own index RX6 y ws)) (hw : ws = Cond.code y bytes maxL ret :: ws') (hr : rm.cells = 0 ∧ rm.slots = 0)
  (hd1 : y.cls = RX6 ∧ y.cls ≠ "java/lang/invoke/MethodHandle" ∧ y.cls ≠ "java/lang/invoke/VarHandle" ∧ (parseMethodDescriptor y.desc).map (fun d => d.parameters.length) = some na) (hR : rm.frames + 1 ≤ R.frames ∧ 8 + (maxL + 11) + rm.locals ≤ R.locals) (hn : As.length = na) (hs0 : st0 = As.reverse ++ .ref (K 0) :: st) (hwd : (st.map fun v => v.category).sum ≤ 8) (hf : cells ≤ R.cells ∧ slots ≤ R.slots) (hd : decode cc pc = .ok (.invokevirtual index, 3))
  (kk : ∀ (r : UInt32) (q : CSt), post r q → ZZ p l e R s m args below meth c cells slots Q (zz_A (DOd K ao) s.heap.size) (fun H => CP D C K q H ∧ va_P D vwCl ol H) n lv (.float r :: st) (pc + 3)) : ZZ p l e R s m args below meth c cells slots Q (zz_A (DOd K ao) s.heap.size) (fun H => CP D C K u H ∧ va_P D vwCl ol H) n lv st0 pc := by
  subst hs0
  intro H locs ls hP hS hl
  have hF : ∀ q, zz_A (DAd K) H.size q → zz_A (DOd K ao) s.heap.size q := fun q h => h.elim (fun h => Or.inl (Or.inl h)) (fun h => Or.inr (Nat.le_trans hS.1 h))
  refine va_callf (va_runV ⟨X.1.1, X.1.2, hml, X.2.2.1, X.2.1⟩ (hM H.size) (cwV na X.2.1 g hw hr.1 hr.2 hd1 hR) ⟨fun a U g mk q => ⟨q.1, q.2.1, q.2.2.1, va_K.moved (u := U) (U := U.calling g mk a) (Vm.Alike.refl U.vm) q.2.2.2⟩, dr_0 X H hP.1, fun U hU hW => ⟨rfl, by rw [hU], by rw [hU]; exact hP.1, va_K.moved hW.alike X.2.2.2⟩⟩ rfl hn hl.1 rfl (lv_room hwd) hd hf) hS (fun q _ h => hF q h) hF (fun r q t H1 locs1 ht hvm hpo hB hz hk hS1 => ?_)
  subst ht
  exact kk r q hpo t.heap locs1 ls ⟨hB, one_kept hol hP.2 hk (nz_A hao)⟩ hS1 hl
theorem lm_callA {ol : va_W} (pc : Nat) (X : CCx p s m args c cc Ts own D C) (hAS : ASx adK adV (zz_A (DOd K ao) s.heap.size) s) (hml : c.maxLocals = n) (hao : ¬ DAd K ao) (hol : ol.map Prod.fst = [ao]) {y : MethodName} {ws ws' : List Cond} {rm : Room} {As : List Value} {post : Int32 → CSt → Prop} {maxL index na : Nat} {ret : Option FieldType} {bytes : ByteArray} (hM : CAi l y ws rm D C K adK adV 0 As u.1 u.2.1 u.2.2.1 u.2.2.2 post) (g : GoodIn Ts (wsV own index RX6 y ws)) (hw : ws = Cond.code y bytes maxL ret :: ws') (hr : rm.cells = 0 ∧ rm.slots = 0)
  (hd1 : y.cls = RX6 ∧ y.cls ≠ "java/lang/invoke/MethodHandle" ∧ y.cls ≠ "java/lang/invoke/VarHandle" ∧ (parseMethodDescriptor y.desc).map (fun d => d.parameters.length) = some na) (hR : rm.frames + 1 ≤ R.frames ∧ 8 + (maxL + 11) + rm.locals ≤ R.locals) (hn : As.length = na) (hs0 : st0 = As.reverse ++ .ref (K 0) :: st) (hwd : (st.map fun v => v.category).sum ≤ 8) (hf : cells ≤ R.cells ∧ slots ≤ R.slots) (hd : decode cc pc = .ok (.invokevirtual index, 3))
  (kk : ∀ (r : Int32) (q : CSt), post r q → ZZ p l e R s m args below meth c cells slots Q (zz_A (DOd K ao) s.heap.size) (fun H => CP D C K q H ∧ va_P D vwCl ol H) n lv (.int r :: st) (pc + 3)) : ZZ p l e R s m args below meth c cells slots Q (zz_A (DOd K ao) s.heap.size) (fun H => CP D C K u H ∧ va_P D vwCl ol H) n lv st0 pc :=
  zz_callViW (nL := 0) (P' := fun q H => CP D C K q H ∧ va_P D vwCl ol H) pc ⟨X.1.1, X.1.2, hml, X.2.2.1, X.2.1⟩ hM (cwV na X.2.1 g hw hr.1 hr.2 hd1 hR) (fun H h => dr_0 X H h.1)
    (fun sz U g mk a q => ⟨⟨q.1.1, va_K.moved (u := U) (U := U.calling g mk a) (Vm.Alike.refl U.vm) q.1.2⟩, q.2.calling⟩) (fun H locs U hP hS hU hW => ⟨⟨by rw [hU]; exact hP.1, va_K.moved hW.alike X.2.2.2⟩, (hAS.moved hW (by rw [hU]; exact hS)).narrow (fun q h => Or.inl (Or.inl h))⟩) (fun q h => Or.inl (Or.inl h)) (fun q h => Or.inr h) (fun q H t hP hB _ _ hk => ⟨hB, one_kept hol hP.2 hk (nz_A hao)⟩) hn hs0 hwd hf hd kk
/-- a class's method called in a wrapper: it throws, and is caught -/
theorem lm_callX {ol : va_W} {E : String} {u0 : CSt} (pc : Nat) (X : CCx p s m args c cc Ts own D C) (hAM : AM (zz_A (DOd K ao) s.heap.size) s) (hml : c.maxLocals = n) (hao : ¬ DAd K ao) (hol : ol.map Prod.fst = [ao]) {y : MethodName} {ws ws' : List Cond} {rm : Room} {As : List Value} {maxL index na : Nat} {ret : Option FieldType} {bytes : ByteArray} (hM : CX l y ws rm D C K 0 As u.1 u.2.1 u.2.2.1 u.2.2.2 E u0) (g : GoodIn Ts (wsV own index RX6 y ws)) (hw : ws = Cond.code y bytes maxL ret :: ws') (hr : rm.cells = 1 ∧ rm.slots = 6)
  (hd1 : y.cls = RX6 ∧ y.cls ≠ "java/lang/invoke/MethodHandle" ∧ y.cls ≠ "java/lang/invoke/VarHandle" ∧ (parseMethodDescriptor y.desc).map (fun d => d.parameters.length) = some na) (hR : rm.frames + 1 ≤ R.frames ∧ 8 + (maxL + 11) + rm.locals ≤ R.locals) (hn : As.length = na) (hs0 : st0 = As.reverse ++ .ref (K 0) :: st) (hwd : (st.map fun v => v.category).sum ≤ 8) (hf : cells + 1 ≤ R.cells ∧ slots + 6 ≤ R.slots) (hd : decode cc pc = .ok (.invokevirtual index, 3))
  (pre : List ExceptionTableEntry) (x : ExceptionTableEntry) (suf : List ExceptionTableEntry) (hsplit : c.exceptionTable.toList = pre ++ x :: suf) (hpass : ∀ z ∈ pre, covers z pc = false ∨ (z.catchType ≠ 0 ∧ ∃ nm : String, (Cond.classLink own z.catchType nm).before args s = true ∧ va_Nc E nm s)) (hx : covers x pc = true) (h0 : x.catchType ≠ 0) {name : String} (hlink : Cond.classLink own x.catchType name ∈ Ts) (hcast : Cond.castable E name ∈ xDc) {hpc : Nat} (hh : x.handlerPc = hpc)
  (kk : ∀ q9 : Nat, ZZ p l e R s m args below meth c (cells + 1) (slots + 6) Q (zz_A (DOd K ao) s.heap.size) (fun H => CP D C K u0 H ∧ va_P D vwCl ol H) n lv [.ref q9] hpc) : ZZ p l e R s m args below meth c cells slots Q (zz_A (DOd K ao) s.heap.size) (fun H => CP D C K u H ∧ va_P D vwCl ol H) n lv st0 pc := by
  subst hs0
  intro H locs ls hP hS hlv
  have hF : ∀ q, zz_A (DAd K) H.size q → zz_A (DOd K ao) s.heap.size q := fun q h => h.elim (fun h => Or.inl (Or.inl h)) (fun h => Or.inr (Nat.le_trans hS.1 h))
  refine vx_callv (vx_runV ⟨X.1.1, X.1.2, hml, X.2.2.1, X.2.1⟩ (hM H.size) (cwV na X.2.1 g hw hr.1 hr.2 hd1 hR) ⟨fun a U g mk q => ⟨q.1, q.2.1, ⟨q.2.2.1.1, va_K.moved (u := U) (U := U.calling g mk a) (Vm.Alike.refl U.vm) q.2.2.1.2⟩, q.2.2.2.calling⟩, dr_0 X H hP.1, fun U hU hW => ⟨rfl, by rw [hU], ⟨by rw [hU]; exact hP.1, va_K.moved hW.alike X.2.2.2⟩, (hAM.moved hW (by rw [hU]; exact hS)).narrow (fun q h => Or.inl (Or.inl h))⟩⟩ rfl hn hlv.1 rfl (lv_room hwd) hd hf) hS (fun q _ h => hF q h) hF (fun q _ h => hF q h) ?_ (fun q t H1 locs1 _ _ hp => hp.elim)
  intro E' ce q9 q t H1 locs1 hth hvm hpx hbx hz hk hS1 hce hcv hcl
  obtain ⟨rfl, hB⟩ := hbx
  have hq : q = u0 := hpx
  subst hq
  subst hth
  refine vx_catch X.2.2.1 pre x suf hsplit hpass hx h0 (X.2.1 _ hlink) (va_tabs ?_ rfl (hAM.2.2.2 _ hcast)) hce hcv hcl ?_
  · rfl
  · rw [hh]
    exact kk q9 t.heap locs1 ls ⟨hB, one_kept hol hP.2 hk (nz_A hao)⟩ hS1 hlv
theorem lm_callXR {ol : va_W} {E : String} {post : CSt → Prop} (pc : Nat) (X : CCx p s m args c cc Ts own D C) (hAM : AM (zz_A (DOd K ao) s.heap.size) s) (hAS : ASx adK adV (zz_A (DOd K ao) s.heap.size) s) (hml : c.maxLocals = n) (hao : ¬ DAd K ao) (hol : ol.map Prod.fst = [ao]) {y : MethodName} {ws ws' : List Cond} {rm : Room} {As : List Value} {maxL index na : Nat} {ret : Option FieldType} {bytes : ByteArray} (hM : CXR l y ws rm D C K adK adV 0 As u.1 u.2.1 u.2.2.1 u.2.2.2 E post) (g : GoodIn Ts (wsV own index RX6 y ws)) (hw : ws = Cond.code y bytes maxL ret :: ws') (hr : rm.cells = 1 ∧ rm.slots = 6)
  (hd1 : y.cls = RX6 ∧ y.cls ≠ "java/lang/invoke/MethodHandle" ∧ y.cls ≠ "java/lang/invoke/VarHandle" ∧ (parseMethodDescriptor y.desc).map (fun d => d.parameters.length) = some na) (hR : rm.frames + 1 ≤ R.frames ∧ 8 + (maxL + 11) + rm.locals ≤ R.locals) (hn : As.length = na) (hs0 : st0 = As.reverse ++ .ref (K 0) :: st) (hwd : (st.map fun v => v.category).sum ≤ 8) (hf : cells + 1 ≤ R.cells ∧ slots + 6 ≤ R.slots) (hd : decode cc pc = .ok (.invokevirtual index, 3))
  (pre : List ExceptionTableEntry) (x : ExceptionTableEntry) (suf : List ExceptionTableEntry) (hsplit : c.exceptionTable.toList = pre ++ x :: suf) (hpass : ∀ z ∈ pre, covers z pc = false ∨ (z.catchType ≠ 0 ∧ ∃ nm : String, (Cond.classLink own z.catchType nm).before args s = true ∧ va_Nc E nm s)) (hx : covers x pc = true) (h0 : x.catchType ≠ 0) {name : String} (hlink : Cond.classLink own x.catchType name ∈ Ts) (hcast : Cond.castable E name ∈ xDc) {hpc : Nat} (hh : x.handlerPc = hpc)
  (kk : ∀ (q9 : Nat) (q : CSt), post q → ZZ p l e R s m args below meth c (cells + 1) (slots + 6) Q (zz_A (DOd K ao) s.heap.size) (fun H => CP D C K q H ∧ va_P D vwCl ol H) n lv [.ref q9] hpc) : ZZ p l e R s m args below meth c cells slots Q (zz_A (DOd K ao) s.heap.size) (fun H => CP D C K u H ∧ va_P D vwCl ol H) n lv st0 pc := by
  subst hs0
  intro H locs ls hP hS hlv
  have hF : ∀ q, zz_A (DAd K) H.size q → zz_A (DOd K ao) s.heap.size q := fun q h => h.elim (fun h => Or.inl (Or.inl h)) (fun h => Or.inr (Nat.le_trans hS.1 h))
  refine vx_callv (vx_runV ⟨X.1.1, X.1.2, hml, X.2.2.1, X.2.1⟩ (hM H.size) (cwV na X.2.1 g hw hr.1 hr.2 hd1 hR) ⟨fun a U g mk q => ⟨q.1, q.2.1, ⟨q.2.2.1.1, va_K.moved (u := U) (U := U.calling g mk a) (Vm.Alike.refl U.vm) q.2.2.1.2⟩, q.2.2.2.1.calling, q.2.2.2.2.calling⟩, dr_0 X H hP.1, fun U hU hW => ⟨rfl, by rw [hU], ⟨by rw [hU]; exact hP.1, va_K.moved hW.alike X.2.2.2⟩, (hAM.moved hW (by rw [hU]; exact hS)).narrow (fun q h => Or.inl (Or.inl h)), (hAS.moved hW (by rw [hU]; exact hS)).narrow (fun q h => Or.inl (Or.inl h))⟩⟩ rfl hn hlv.1 rfl (lv_room hwd) hd hf) hS (fun q _ h => hF q h) hF (fun q _ h => hF q h) ?_ (fun q t H1 locs1 _ _ hp => hp.elim)
  intro E' ce q9 q t H1 locs1 hth hvm hpx hbx hz hk hS1 hce hcv hcl
  obtain ⟨rfl, hB⟩ := hbx
  subst hth
  refine vx_catch X.2.2.1 pre x suf hsplit hpass hx h0 (X.2.1 _ hlink) (va_tabs ?_ rfl (hAM.2.2.2 _ hcast)) hce hcv hcl ?_
  · rfl
  · rw [hh]
    exact kk q9 q hpx t.heap locs1 ls ⟨hB, one_kept hol hP.2 hk (nz_A hao)⟩ hS1 hlv
theorem DO_D {W : Nat → Nat → Int64} {F : Nat → Int32} {G T : Nat → Nat → Int32} {e0 : va_E} (hAp : DAp K) (hao : ¬ DAd K ao) (sz : Nat) : va_D (zz_A (DOd K ao) sz) (DW C K F W G T ++ [(ao, e0)]) := by
  refine va_D.app ((hAp C F W G T).weaken (fun _ _ hk _ => Or.inl (Or.inl (DW_ad hk)))) (D_one (Or.inl (Or.inr rfl))) (fun i j x y hx hy hxy => ?_)
  have h1 : j < 1 := (List.getElem?_eq_some_iff.mp hy).1
  rw [show j = 0 by omega] at hy
  cases hy
  have e9 : x.1 = ao := hxy
  exact hao (e9 ▸ DW_ad hx)
theorem DO_at {W : Nat → Nat → Int64} {F : Nat → Int32} {G T : Nat → Nat → Int32} {e0 : Nat × va_E} : (DW C K F W G T ++ [e0])[129]? = some e0 := by
  rw [List.getElem?_append_right (by rw [DW_len]; exact Nat.le_refl _), DW_len]
  rfl
theorem DO_set {W : Nat → Nat → Int64} {F : Nat → Int32} {G T : Nat → Nat → Int32} {e0 e1 : Nat × va_E} : (DW C K F W G T ++ [e0]).set 129 e1 = DW C K F W G T ++ [e1] := by
  rw [List.set_append_right _ _ (by rw [DW_len]; exact Nat.le_refl _), DW_len]
  rfl
theorem one_cell {H : Heap} {cA : ClassId} {x y : vp_A} (h : vp_cell cA x = vp_cell cA y) (hP : va_P D vwCl [(ao, .inl (cA, x))] H) : va_P D vwCl [(ao, .inl (cA, y))] H := fun k q hk => by
  have h1 : k < 1 := (List.getElem?_eq_some_iff.mp hk).1
  rw [show k = 0 by omega] at hk
  cases hk
  have h2 := hP 0 _ rfl
  show H[ao]? = some (vp_cell cA y)
  rw [← h]
  exact h2
theorem lm_lst (pc : Nat) (X : CCx p s m args c cc Ts own D C) (hAp : DAp K) (hao : ¬ DAd K ao) {x : Int64} (hd : decode cc pc = .ok (.lastore, 1)) (kk : ZZ p l e R s m args below meth c cells slots Q (zz_A (DOd K ao) s.heap.size) (fun H => CP D C K u H ∧ va_P D vwCl (OLn C ao x) H) n lv st (pc + 1)) : ZZ p l e R s m args below meth c cells slots Q (zz_A (DOd K ao) s.heap.size) (fun H => CP D C K u H ∧ va_P D vwCl (OLn C ao o) H) n lv (.long x :: .int (nI 0) :: .ref ao :: st) pc := fun H locs ls hP hS hl =>
  va_last X.1.1 X.1.2 X.2.2.2 (va_P.app hP.1 hP.2) (DO_D hAp hao _) hS 129 2 DO_at rfl (vp_in_nI (n := 0) (N := 1) (by decide) (by decide)) hd (fun H1 locs1 hP1 _ hS1 => kk H1 locs1 ls (by
    unfold OLn at hP1
    rw [DO_set] at hP1
    refine ⟨P_left hP1, one_cell ?_ (P_right hP1)⟩
    rw [nI_clamp (show 0 < 2 ^ 31 by decide)]
    show arrV (C 2) 1 (fun j => .long (vp_updL (fun _ => o) 0 x j)) = arrV (C 2) 1 (fun j => .long x)
    unfold arrV
    congr 1) hS1 hl)
theorem lm_dst (pc : Nat) (X : CCx p s m args c cc Ts own D C) (hKd : va_K D vwCl [(cD, .double)] s) (hAp : DAp K) (hao : ¬ DAd K ao) {x : UInt64} (hd : decode cc pc = .ok (.dastore, 1)) (kk : ZZ p l e R s m args below meth c cells slots Q (zz_A (DOd K ao) s.heap.size) (fun H => CP D C K u H ∧ va_P D vwCl (ODn cD ao x) H) n lv st (pc + 1)) : ZZ p l e R s m args below meth c cells slots Q (zz_A (DOd K ao) s.heap.size) (fun H => CP D C K u H ∧ va_P D vwCl (ODn cD ao od) H) n lv (.double x :: .int (nI 0) :: .ref ao :: st) pc := fun H locs ls hP hS hl =>
  va_dast X.1.1 X.1.2 hKd (va_P.app hP.1 hP.2) (DO_D hAp hao _) hS 129 0 DO_at rfl (vp_in_nI (n := 0) (N := 1) (by decide) (by decide)) hd (fun H1 locs1 hP1 _ hS1 => kk H1 locs1 ls (by
    unfold ODn at hP1
    rw [DO_set] at hP1
    refine ⟨P_left hP1, one_cell ?_ (P_right hP1)⟩
    rw [nI_clamp (show 0 < 2 ^ 31 by decide)]
    show arrV cD 1 (fun j => .double (vf_upd (fun _ => od) 0 x j)) = arrV cD 1 (fun j => .double x)
    unfold arrV
    congr 1) hS1 hl)
end LMS
