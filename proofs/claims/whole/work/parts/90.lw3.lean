/-! The law's own walk: the two worlds, its context, its calls. -/
section LWX
variable {p : Program} {l : Launch} {e : Env} {R : Room} {s : State} {m : MethodId} {args : Array Value} {below : List Frame} {meth : Method} {c : Code} {cells slots : Nat} {Q : State → Prop} {n : Nat} {lv lv' : List (Nat × Value)} {st st0 : List Value} {cc : ByteArray} {D : va_G} {C : Nat → ClassId} {cD : ClassId} {K KR : Nat → Nat} {A : Nat → Prop} {P : Heap → Prop} {adK adV : Nat → Nat} {ao ad b L : Nat} {xs : Nat → Int32} {u : CSt} {v : MSt} {o : Int64} {od : UInt64}
def PL (D : va_G) (C : Nat → ClassId) (cD : ClassId) (K KR : Nat → Nat) (ao ad : Nat) (u : CSt) (v : MSt) (o : Int64) (od : UInt64) : Heap → Prop := fun H => CP D C K u H ∧ MP D C KR v H ∧ va_P D vwCl (OLn C ao o) H ∧ va_P D vwCl (ODn cD ad od) H
def LAp (A : Nat → Prop) (K KR : Nat → Nat) (ao ad : Nat) : Prop := (DAp K ∧ RAp KR) ∧ (∀ q, DAd K q → A q ∧ ¬ RAd KR q ∧ q ≠ ao ∧ q ≠ ad) ∧ (∀ q, RAd KR q → A q ∧ q ≠ ao ∧ q ≠ ad) ∧ A ao ∧ A ad ∧ ao ≠ ad
def LCx (p : Program) (l : Launch) (s : State) (m : MethodId) (args : Array Value) (c : Code) (meth : Method) (A : Nat → Prop) (D : va_G) (C : Nat → ClassId) (cD : ClassId) (K KR adK adV : Nat → Nat) (ao ad b L : Nat) (xs : Nat → Int32) : Prop := CCx p s m args c cL_law wsL_law RL D C ∧ c.maxLocals = 10 ∧ l.stackTraces = false ∧ va_K D vwCl [(cD, .double)] s ∧ (AM A s ∧ ASx adK adV A s ∧ NCx s) ∧ LAp A K KR ao ad ∧ (∀ q, s.heap.size ≤ q → A q) ∧ (va_X b L xs s s.heap ∧ b < s.heap.size ∧ ¬ A b ∧ L ≤ 4096)
theorem LAp.aoD (h : LAp A K KR ao ad) : ¬ DAd K ao := fun z => (h.2.1 ao z).2.2.1 rfl
theorem LAp.adD (h : LAp A K KR ao ad) : ¬ DAd K ad := fun z => (h.2.1 ad z).2.2.2 rfl
theorem LAp.aoR (h : LAp A K KR ao ad) : ¬ RAd KR ao := fun z => (h.2.2.1 ao z).2.1 rfl
theorem LAp.adR (h : LAp A K KR ao ad) : ¬ RAd KR ad := fun z => (h.2.2.1 ad z).2.2 rfl
theorem PL_R {H H1 : Heap} {w : MSt} (h : LAp A K KR ao ad) (hP : PL D C cD K KR ao ad u v o od H) (hB : MP D C KR w H1) (hk : ∀ q : Nat, q < H.size → ¬ zz_A (RAd KR) H.size q → H1[q]? = H[q]?) : PL D C cD K KR ao ad u w o od H1 :=
  ⟨CP_kept hP.1 hk (fun q hq hlt => nz_A (h.2.1 q hq).2.1 hlt), hB, one_kept rfl hP.2.2.1 hk (nz_A h.aoR), one_kept rfl hP.2.2.2 hk (nz_A h.adR)⟩
theorem PL_C {H H1 : Heap} {w : CSt} (h : LAp A K KR ao ad) (hP : PL D C cD K KR ao ad u v o od H) (hB : CP D C K w H1) (hk : ∀ q : Nat, q < H.size → ¬ zz_A (DAd K) H.size q → H1[q]? = H[q]?) : PL D C cD K KR ao ad w v o od H1 :=
  ⟨hB, MP_kept hP.2.1 hk (fun q hq hlt => nz_A (fun z => (h.2.1 q z).2.1 hq) hlt), one_kept rfl hP.2.2.1 hk (nz_A h.aoD), one_kept rfl hP.2.2.2 hk (nz_A h.adD)⟩
theorem lw_callW (pc : Nat) (Z : LCx p l s m args c meth A D C cD K KR adK adV ao ad b L xs) {y : MethodName} {ws ws' : List Cond} {rm : Room} {As : List Value} {post : Int32 → CSt × Int64 → Prop} {maxL index na : Nat} {ret : Option FieldType} {hh : List (Nat × Nat × Nat × Nat)} {bytes : ByteArray} (hM : LM l y ws rm D C cD K adK adV ao (OLn C ao) As u o post) (g : GoodIn wsL_law (va_wsS RL index y ws)) (hw : ws = Cond.codeWith y bytes maxL ret hh :: ws') (hr : rm.cells = 1 ∧ rm.slots = 6)
  (hd1 : y.cls ≠ "java/lang/invoke/MethodHandle" ∧ y.cls ≠ "java/lang/invoke/VarHandle" ∧ (parseMethodDescriptor y.desc).map (fun d => d.parameters.length) = some na) (hR : rm.frames + 1 ≤ R.frames ∧ 8 + (maxL + 11) + rm.locals ≤ R.locals) (hn : (.ref (K 0) :: (As ++ [.ref ao]) : List Value).length = na) (hs0 : st0 = (.ref (K 0) :: (As ++ [.ref ao]) : List Value).reverse ++ st) (hwd : (st.map fun v => v.category).sum ≤ 8) (hf : cells + 1 ≤ R.cells ∧ slots + 6 ≤ R.slots) (hd : decode cL_law pc = .ok (.invokestatic index, 3))
  (kk : ∀ (r : Int32) (q : CSt × Int64), post r q → ZZ p l e R s m args below meth c (cells + 1) (slots + 6) Q A (PL D C cD K KR ao ad q.1 v q.2 od) 10 lv (.int r :: st) (pc + 3)) : ZZ p l e R s m args below meth c cells slots Q A (PL D C cD K KR ao ad u v o od) 10 lv st0 pc := by
  subst hs0
  obtain ⟨X, hml, hst, hKd, ⟨hAM, hAS, hNC⟩, hL, hA, -⟩ := Z
  intro H locs ls hP hS hl
  have hF : ∀ q, zz_A (DOd K ao) H.size q → A q := fun q h => h.elim (fun h => h.elim (fun h => (hL.2.1 q h).1) (fun h => h ▸ hL.2.2.2.1)) (fun h => hA q (Nat.le_trans hS.1 h))
  have hD : ∀ q, DOd K ao q → A q := fun q h => h.elim (fun h => (hL.2.1 q h).1) (fun h => h ▸ hL.2.2.2.1)
  refine va_calli (vx_runSW ⟨X.1.1, X.1.2, hml, X.2.2.1, X.2.1⟩ (hM H.size) (vx_cwSW na X.2.1 g hw hr.1 hr.2 hd1 hR) ⟨fun a U g mk q => ⟨q.1, q.2.1, q.2.2.1, va_K.moved (u := U) (U := U.calling g mk a) (Vm.Alike.refl U.vm) q.2.2.2.1, va_K.moved (u := U) (U := U.calling g mk a) (Vm.Alike.refl U.vm) q.2.2.2.2.1, q.2.2.2.2.2.1.calling, q.2.2.2.2.2.2.1.calling, NCx.moved (s := U) (U := U.calling g mk a) (Vm.Alike.refl U.vm) q.2.2.2.2.2.2.2⟩, fun U hU hW => ⟨rfl, by rw [hU], by rw [hU]; exact ⟨hP.1, hP.2.2.1⟩, va_K.moved hW.alike X.2.2.2, va_K.moved hW.alike hKd, (hAM.moved hW (by rw [hU]; exact hS)).narrow hD, (hAS.moved hW (by rw [hU]; exact hS)).narrow hD, hNC.moved hW.alike⟩⟩ rfl hn hl.1 rfl (lv_room hwd) hd hf) hS (fun q _ h => hF q h) hF (fun r q t H1 locs1 ht hvm hpo hB hz hk hS1 => ?_)
  subst ht
  exact kk r q hpo t.heap locs1 ls ⟨hB.1, MP_kept hP.2.1 hk (fun a ha hlt => nz_A (fun z => z.elim (fun z => (hL.2.1 a z).2.1 ha) (fun z => (hL.2.2.1 a ha).2.1 z)) hlt), hB.2, one_kept rfl hP.2.2.2 hk (nz_A (fun z => z.elim hL.adD (fun z => hL.2.2.2.2.2 z.symm)))⟩ hS1 hl
theorem lw_callWd (pc : Nat) (Z : LCx p l s m args c meth A D C cD K KR adK adV ao ad b L xs) {y : MethodName} {ws ws' : List Cond} {rm : Room} {As : List Value} {post : Int32 → CSt × UInt64 → Prop} {maxL index na : Nat} {ret : Option FieldType} {hh : List (Nat × Nat × Nat × Nat)} {bytes : ByteArray} (hM : LM l y ws rm D C cD K adK adV ad (ODn cD ad) As u od post) (g : GoodIn wsL_law (va_wsS RL index y ws)) (hw : ws = Cond.codeWith y bytes maxL ret hh :: ws') (hr : rm.cells = 1 ∧ rm.slots = 6)
  (hd1 : y.cls ≠ "java/lang/invoke/MethodHandle" ∧ y.cls ≠ "java/lang/invoke/VarHandle" ∧ (parseMethodDescriptor y.desc).map (fun d => d.parameters.length) = some na) (hR : rm.frames + 1 ≤ R.frames ∧ 8 + (maxL + 11) + rm.locals ≤ R.locals) (hn : (.ref (K 0) :: (As ++ [.ref ad]) : List Value).length = na) (hs0 : st0 = (.ref (K 0) :: (As ++ [.ref ad]) : List Value).reverse ++ st) (hwd : (st.map fun v => v.category).sum ≤ 8) (hf : cells + 1 ≤ R.cells ∧ slots + 6 ≤ R.slots) (hd : decode cL_law pc = .ok (.invokestatic index, 3))
  (kk : ∀ (r : Int32) (q : CSt × UInt64), post r q → ZZ p l e R s m args below meth c (cells + 1) (slots + 6) Q A (PL D C cD K KR ao ad q.1 v o q.2) 10 lv (.int r :: st) (pc + 3)) : ZZ p l e R s m args below meth c cells slots Q A (PL D C cD K KR ao ad u v o od) 10 lv st0 pc := by
  subst hs0
  obtain ⟨X, hml, hst, hKd, ⟨hAM, hAS, hNC⟩, hL, hA, -⟩ := Z
  intro H locs ls hP hS hl
  have hF : ∀ q, zz_A (DOd K ad) H.size q → A q := fun q h => h.elim (fun h => h.elim (fun h => (hL.2.1 q h).1) (fun h => h ▸ hL.2.2.2.2.1)) (fun h => hA q (Nat.le_trans hS.1 h))
  have hD : ∀ q, DOd K ad q → A q := fun q h => h.elim (fun h => (hL.2.1 q h).1) (fun h => h ▸ hL.2.2.2.2.1)
  refine va_calli (vx_runSW ⟨X.1.1, X.1.2, hml, X.2.2.1, X.2.1⟩ (hM H.size) (vx_cwSW na X.2.1 g hw hr.1 hr.2 hd1 hR) ⟨fun a U g mk q => ⟨q.1, q.2.1, q.2.2.1, va_K.moved (u := U) (U := U.calling g mk a) (Vm.Alike.refl U.vm) q.2.2.2.1, va_K.moved (u := U) (U := U.calling g mk a) (Vm.Alike.refl U.vm) q.2.2.2.2.1, q.2.2.2.2.2.1.calling, q.2.2.2.2.2.2.1.calling, NCx.moved (s := U) (U := U.calling g mk a) (Vm.Alike.refl U.vm) q.2.2.2.2.2.2.2⟩, fun U hU hW => ⟨rfl, by rw [hU], by rw [hU]; exact ⟨hP.1, hP.2.2.2⟩, va_K.moved hW.alike X.2.2.2, va_K.moved hW.alike hKd, (hAM.moved hW (by rw [hU]; exact hS)).narrow hD, (hAS.moved hW (by rw [hU]; exact hS)).narrow hD, hNC.moved hW.alike⟩⟩ rfl hn hl.1 rfl (lv_room hwd) hd hf) hS (fun q _ h => hF q h) hF (fun r q t H1 locs1 ht hvm hpo hB hz hk hS1 => ?_)
  subst ht
  exact kk r q hpo t.heap locs1 ls ⟨hB.1, MP_kept hP.2.1 hk (fun a ha hlt => nz_A (fun z => z.elim (fun z => (hL.2.1 a z).2.1 ha) (fun z => (hL.2.2.1 a ha).2.2 z)) hlt), one_kept rfl hP.2.2.1 hk (nz_A (fun z => z.elim hL.aoD (fun z => hL.2.2.2.2.2 z))), hB.2⟩ hS1 hl
theorem lw_recvR (Z : LCx p l s m args c meth A D C cD K KR adK adV ao ad b L xs) (H : Heap) (h : PL D C cD K KR ao ad u v o od H) : ∃ cellB : Cell, H[KR 0]? = some cellB ∧ cellB.vm.isStatics = false ∧ s.vm.findClass RX7 = some cellB.cls := va_recv Z.1.2.2.2 h.2.1 (ci := 7) (q0 := 0) rfl rfl
theorem lw_callRi (pc : Nat) (Z : LCx p l s m args c meth A D C cD K KR adK adV ao ad b L xs) {y : MethodName} {ws ws' : List Cond} {rm : Room} {As : List Value} {post : Int32 → MSt → Prop} {maxL index na : Nat} {ret : Option FieldType} {bytes : ByteArray} (hM : RMi l y ws rm D C KR As v.1 v.2.1 v.2.2.1 v.2.2.2 post) (g : GoodIn wsL_law (wsV RL index RX7 y ws)) (hw : ws = Cond.code y bytes maxL ret :: ws') (hr : rm.cells = 0 ∧ rm.slots = 0)
  (hd1 : y.cls = RX7 ∧ y.cls ≠ "java/lang/invoke/MethodHandle" ∧ y.cls ≠ "java/lang/invoke/VarHandle" ∧ (parseMethodDescriptor y.desc).map (fun d => d.parameters.length) = some na) (hR : rm.frames + 1 ≤ R.frames ∧ 8 + (maxL + 11) + rm.locals ≤ R.locals) (hn : As.length = na) (hs0 : st0 = As.reverse ++ .ref (KR 0) :: st) (hwd : (st.map fun v => v.category).sum ≤ 8) (hf : cells ≤ R.cells ∧ slots ≤ R.slots) (hd : decode cL_law pc = .ok (.invokevirtual index, 3))
  (kk : ∀ (r : Int32) (q : MSt), post r q → ZZ p l e R s m args below meth c cells slots Q A (PL D C cD K KR ao ad u q o od) 10 lv (.int r :: st) (pc + 3)) : ZZ p l e R s m args below meth c cells slots Q A (PL D C cD K KR ao ad u v o od) 10 lv st0 pc :=
  zz_callVi (nL := 0) (P' := fun q => PL D C cD K KR ao ad u q o od) pc ⟨Z.1.1.1, Z.1.1.2, Z.2.1, Z.1.2.2.1, Z.1.2.1⟩ hM (cwV na Z.1.2.1 g hw hr.1 hr.2 hd1 hR) (lw_recvR Z)
    (fun sz U g mk a q => ⟨q.1, va_K.moved (u := U) (U := U.calling g mk a) (Vm.Alike.refl U.vm) q.2⟩) (fun H locs U hP hS hU hA => ⟨by rw [hU]; exact hP.2.1, va_K.moved hA Z.1.2.2.2⟩) (fun q h => (Z.2.2.2.2.2.1.2.2.1 q h).1) Z.2.2.2.2.2.2.1 (fun q H t hP hB _ _ hk => PL_R Z.2.2.2.2.2.1 hP hB hk) hn hs0 hwd hf hd kk
theorem lw_callRl (pc : Nat) (Z : LCx p l s m args c meth A D C cD K KR adK adV ao ad b L xs) {y : MethodName} {ws ws' : List Cond} {rm : Room} {As : List Value} {post : Int64 → MSt → Prop} {maxL index na : Nat} {ret : Option FieldType} {bytes : ByteArray} (hM : RMl l y ws rm D C KR As v.1 v.2.1 v.2.2.1 v.2.2.2 post) (g : GoodIn wsL_law (wsV RL index RX7 y ws)) (hw : ws = Cond.code y bytes maxL ret :: ws') (hr : rm.cells = 0 ∧ rm.slots = 0)
  (hd1 : y.cls = RX7 ∧ y.cls ≠ "java/lang/invoke/MethodHandle" ∧ y.cls ≠ "java/lang/invoke/VarHandle" ∧ (parseMethodDescriptor y.desc).map (fun d => d.parameters.length) = some na) (hR : rm.frames + 1 ≤ R.frames ∧ 8 + (maxL + 11) + rm.locals ≤ R.locals) (hn : As.length = na) (hs0 : st0 = As.reverse ++ .ref (KR 0) :: st) (hwd : (st.map fun v => v.category).sum ≤ 8) (hf : cells ≤ R.cells ∧ slots ≤ R.slots) (hd : decode cL_law pc = .ok (.invokevirtual index, 3))
  (kk : ∀ (r : Int64) (q : MSt), post r q → ZZ p l e R s m args below meth c cells slots Q A (PL D C cD K KR ao ad u q o od) 10 lv (.long r :: st) (pc + 3)) : ZZ p l e R s m args below meth c cells slots Q A (PL D C cD K KR ao ad u v o od) 10 lv st0 pc :=
  zz_callVl (nL := 0) (P' := fun q => PL D C cD K KR ao ad u q o od) pc ⟨Z.1.1.1, Z.1.1.2, Z.2.1, Z.1.2.2.1, Z.1.2.1⟩ hM (cwV na Z.1.2.1 g hw hr.1 hr.2 hd1 hR) (lw_recvR Z)
    (fun sz U g mk a q => ⟨q.1, va_K.moved (u := U) (U := U.calling g mk a) (Vm.Alike.refl U.vm) q.2⟩) (fun H locs U hP hS hU hA => ⟨by rw [hU]; exact hP.2.1, va_K.moved hA Z.1.2.2.2⟩) (fun q h => (Z.2.2.2.2.2.1.2.2.1 q h).1) Z.2.2.2.2.2.2.1 (fun q H t hP hB _ _ hk => PL_R Z.2.2.2.2.2.1 hP hB hk) hn hs0 hwd hf hd kk
theorem lw_callRf (pc : Nat) (Z : LCx p l s m args c meth A D C cD K KR adK adV ao ad b L xs) {y : MethodName} {ws ws' : List Cond} {rm : Room} {As : List Value} {post : UInt32 → MSt → Prop} {maxL index na : Nat} {ret : Option FieldType} {bytes : ByteArray} (hM : RMf l y ws rm D C KR As v.1 v.2.1 v.2.2.1 v.2.2.2 post) (g : GoodIn wsL_law (wsV RL index RX7 y ws)) (hw : ws = Cond.code y bytes maxL ret :: ws') (hr : rm.cells = 0 ∧ rm.slots = 0)
  (hd1 : y.cls = RX7 ∧ y.cls ≠ "java/lang/invoke/MethodHandle" ∧ y.cls ≠ "java/lang/invoke/VarHandle" ∧ (parseMethodDescriptor y.desc).map (fun d => d.parameters.length) = some na) (hR : rm.frames + 1 ≤ R.frames ∧ 8 + (maxL + 11) + rm.locals ≤ R.locals) (hn : As.length = na) (hs0 : st0 = As.reverse ++ .ref (KR 0) :: st) (hwd : (st.map fun v => v.category).sum ≤ 8) (hf : cells ≤ R.cells ∧ slots ≤ R.slots) (hd : decode cL_law pc = .ok (.invokevirtual index, 3))
  (kk : ∀ (r : UInt32) (q : MSt), post r q → ZZ p l e R s m args below meth c cells slots Q A (PL D C cD K KR ao ad u q o od) 10 lv (.float r :: st) (pc + 3)) : ZZ p l e R s m args below meth c cells slots Q A (PL D C cD K KR ao ad u v o od) 10 lv st0 pc := by
  subst hs0
  intro H locs ls hP hS hl
  have hF : ∀ q, zz_A (RAd KR) H.size q → A q := fun q h => h.elim (fun h => (Z.2.2.2.2.2.1.2.2.1 q h).1) (fun h => Z.2.2.2.2.2.2.1 q (Nat.le_trans hS.1 h))
  refine va_callf (va_runV ⟨Z.1.1.1, Z.1.1.2, Z.2.1, Z.1.2.2.1, Z.1.2.1⟩ (hM H.size) (cwV na Z.1.2.1 g hw hr.1 hr.2 hd1 hR) ⟨fun a U g mk q => ⟨q.1, q.2.1, q.2.2.1, va_K.moved (u := U) (U := U.calling g mk a) (Vm.Alike.refl U.vm) q.2.2.2⟩, lw_recvR Z H hP, fun U hU hW => ⟨rfl, by rw [hU], by rw [hU]; exact hP.2.1, va_K.moved hW.alike Z.1.2.2.2⟩⟩ rfl hn hl.1 rfl (lv_room hwd) hd hf) hS (fun q _ h => hF q h) hF (fun r q t H1 locs1 ht hvm hpo hB hz hk hS1 => ?_)
  subst ht
  exact kk r q hpo t.heap locs1 ls (PL_R Z.2.2.2.2.2.1 hP hB hk) hS1 hl
theorem lw_callRd (pc : Nat) (Z : LCx p l s m args c meth A D C cD K KR adK adV ao ad b L xs) {y : MethodName} {ws ws' : List Cond} {rm : Room} {As : List Value} {post : UInt64 → MSt → Prop} {maxL index na : Nat} {ret : Option FieldType} {bytes : ByteArray} (hM : RMd l y ws rm D C KR As v.1 v.2.1 v.2.2.1 v.2.2.2 post) (g : GoodIn wsL_law (wsV RL index RX7 y ws)) (hw : ws = Cond.code y bytes maxL ret :: ws') (hr : rm.cells = 0 ∧ rm.slots = 0)
  (hd1 : y.cls = RX7 ∧ y.cls ≠ "java/lang/invoke/MethodHandle" ∧ y.cls ≠ "java/lang/invoke/VarHandle" ∧ (parseMethodDescriptor y.desc).map (fun d => d.parameters.length) = some na) (hR : rm.frames + 1 ≤ R.frames ∧ 8 + (maxL + 11) + rm.locals ≤ R.locals) (hn : As.length = na) (hs0 : st0 = As.reverse ++ .ref (KR 0) :: st) (hwd : (st.map fun v => v.category).sum ≤ 8) (hf : cells ≤ R.cells ∧ slots ≤ R.slots) (hd : decode cL_law pc = .ok (.invokevirtual index, 3))
  (kk : ∀ (r : UInt64) (q : MSt), post r q → ZZ p l e R s m args below meth c cells slots Q A (PL D C cD K KR ao ad u q o od) 10 lv (.double r :: st) (pc + 3)) : ZZ p l e R s m args below meth c cells slots Q A (PL D C cD K KR ao ad u v o od) 10 lv st0 pc := by
  subst hs0
  intro H locs ls hP hS hl
  have hF : ∀ q, zz_A (RAd KR) H.size q → A q := fun q h => h.elim (fun h => (Z.2.2.2.2.2.1.2.2.1 q h).1) (fun h => Z.2.2.2.2.2.2.1 q (Nat.le_trans hS.1 h))
  refine va_calld (va_runV ⟨Z.1.1.1, Z.1.1.2, Z.2.1, Z.1.2.2.1, Z.1.2.1⟩ (hM H.size) (cwV na Z.1.2.1 g hw hr.1 hr.2 hd1 hR) ⟨fun a U g mk q => ⟨q.1, q.2.1, q.2.2.1, va_K.moved (u := U) (U := U.calling g mk a) (Vm.Alike.refl U.vm) q.2.2.2⟩, lw_recvR Z H hP, fun U hU hW => ⟨rfl, by rw [hU], by rw [hU]; exact hP.2.1, va_K.moved hW.alike Z.1.2.2.2⟩⟩ rfl hn hl.1 rfl (lv_room hwd) hd hf) hS (fun q _ h => hF q h) hF (fun r q t H1 locs1 ht hvm hpo hB hz hk hS1 => ?_)
  subst ht
  exact kk r q hpo t.heap locs1 ls (PL_R Z.2.2.2.2.2.1 hP hB hk) hS1 hl
theorem lw_callCi (pc : Nat) (Z : LCx p l s m args c meth A D C cD K KR adK adV ao ad b L xs) {y : MethodName} {ws ws' : List Cond} {rm : Room} {As : List Value} {post : Int32 → CSt → Prop} {maxL index na : Nat} {ret : Option FieldType} {bytes : ByteArray} (hM : CMi l y ws rm D C K 0 As u.1 u.2.1 u.2.2.1 u.2.2.2 post) (g : GoodIn wsL_law (wsV RL index RX6 y ws)) (hw : ws = Cond.code y bytes maxL ret :: ws') (hr : rm.cells = 0 ∧ rm.slots = 0)
  (hd1 : y.cls = RX6 ∧ y.cls ≠ "java/lang/invoke/MethodHandle" ∧ y.cls ≠ "java/lang/invoke/VarHandle" ∧ (parseMethodDescriptor y.desc).map (fun d => d.parameters.length) = some na) (hR : rm.frames + 1 ≤ R.frames ∧ 8 + (maxL + 11) + rm.locals ≤ R.locals) (hn : As.length = na) (hs0 : st0 = As.reverse ++ .ref (K 0) :: st) (hwd : (st.map fun v => v.category).sum ≤ 8) (hf : cells ≤ R.cells ∧ slots ≤ R.slots) (hd : decode cL_law pc = .ok (.invokevirtual index, 3))
  (kk : ∀ (r : Int32) (q : CSt), post r q → ZZ p l e R s m args below meth c cells slots Q A (PL D C cD K KR ao ad q v o od) 10 lv (.int r :: st) (pc + 3)) : ZZ p l e R s m args below meth c cells slots Q A (PL D C cD K KR ao ad u v o od) 10 lv st0 pc :=
  zz_callVi (nL := 0) (P' := fun q => PL D C cD K KR ao ad q v o od) pc ⟨Z.1.1.1, Z.1.1.2, Z.2.1, Z.1.2.2.1, Z.1.2.1⟩ hM (cwV na Z.1.2.1 g hw hr.1 hr.2 hd1 hR) (fun H h => dr_0 Z.1 H h.1)
    (fun sz U g mk a q => ⟨q.1, va_K.moved (u := U) (U := U.calling g mk a) (Vm.Alike.refl U.vm) q.2⟩) (fun H locs U hP hS hU hA => ⟨by rw [hU]; exact hP.1, va_K.moved hA Z.1.2.2.2⟩) (fun q h => (Z.2.2.2.2.2.1.2.1 q h).1) Z.2.2.2.2.2.2.1 (fun q H t hP hB _ _ hk => PL_C Z.2.2.2.2.2.1 hP hB hk) hn hs0 hwd hf hd kk
theorem lw_callCd (pc : Nat) (Z : LCx p l s m args c meth A D C cD K KR adK adV ao ad b L xs) {y : MethodName} {ws ws' : List Cond} {rm : Room} {As : List Value} {post : UInt64 → CSt → Prop} {maxL index na : Nat} {ret : Option FieldType} {bytes : ByteArray} (hM : CMd l y ws rm D C K 0 As u.1 u.2.1 u.2.2.1 u.2.2.2 post) (g : GoodIn wsL_law (wsV RL index RX6 y ws)) (hw : ws = Cond.code y bytes maxL ret :: ws') (hr : rm.cells = 0 ∧ rm.slots = 0)
  (hd1 : y.cls = RX6 ∧ y.cls ≠ "java/lang/invoke/MethodHandle" ∧ y.cls ≠ "java/lang/invoke/VarHandle" ∧ (parseMethodDescriptor y.desc).map (fun d => d.parameters.length) = some na) (hR : rm.frames + 1 ≤ R.frames ∧ 8 + (maxL + 11) + rm.locals ≤ R.locals) (hn : As.length = na) (hs0 : st0 = As.reverse ++ .ref (K 0) :: st) (hwd : (st.map fun v => v.category).sum ≤ 8) (hf : cells ≤ R.cells ∧ slots ≤ R.slots) (hd : decode cL_law pc = .ok (.invokevirtual index, 3))
  (kk : ∀ (r : UInt64) (q : CSt), post r q → ZZ p l e R s m args below meth c cells slots Q A (PL D C cD K KR ao ad q v o od) 10 lv (.double r :: st) (pc + 3)) : ZZ p l e R s m args below meth c cells slots Q A (PL D C cD K KR ao ad u v o od) 10 lv st0 pc := by
  subst hs0
  intro H locs ls hP hS hl
  have hF : ∀ q, zz_A (DAd K) H.size q → A q := fun q h => h.elim (fun h => (Z.2.2.2.2.2.1.2.1 q h).1) (fun h => Z.2.2.2.2.2.2.1 q (Nat.le_trans hS.1 h))
  refine va_calld (va_runV ⟨Z.1.1.1, Z.1.1.2, Z.2.1, Z.1.2.2.1, Z.1.2.1⟩ (hM H.size) (cwV na Z.1.2.1 g hw hr.1 hr.2 hd1 hR) ⟨fun a U g mk q => ⟨q.1, q.2.1, q.2.2.1, va_K.moved (u := U) (U := U.calling g mk a) (Vm.Alike.refl U.vm) q.2.2.2⟩, dr_0 Z.1 H hP.1, fun U hU hW => ⟨rfl, by rw [hU], by rw [hU]; exact hP.1, va_K.moved hW.alike Z.1.2.2.2⟩⟩ rfl hn hl.1 rfl (lv_room hwd) hd hf) hS (fun q _ h => hF q h) hF (fun r q t H1 locs1 ht hvm hpo hB hz hk hS1 => ?_)
  subst ht
  exact kk r q hpo t.heap locs1 ls (PL_C Z.2.2.2.2.2.1 hP hB hk) hS1 hl
theorem lw_sld (pc : Nat) (Z : LCx p l s m args c meth A D C cD K KR adK adV ao ad b L xs) {j : Nat} {x : Int32} (hj : j < L) (hx : xs j = x) (hd : decode cL_law pc = .ok (.iaload, 1)) (kk : ZZ p l e R s m args below meth c cells slots Q A P n lv (.int x :: st) (pc + 1)) : ZZ p l e R s m args below meth c cells slots Q A P n lv (.int (nI j) :: .ref b :: st) pc := fun H locs ls hP hS hl => by
  have hz := Z.2.2.2.2.2.2.2
  have hL : L < 2 ^ 31 := Nat.lt_of_le_of_lt hz.2.2.2 (by decide)
  exact va_sld Z.1.1.1 Z.1.1.2 hz.1 hz.2.1 hz.2.2.1 hS (vp_in_nI hj hL) hd (by rw [nI_clamp (Nat.lt_trans hj hL), hx]; exact kk H locs ls hP hS hl)
theorem lw_slen (pc : Nat) (Z : LCx p l s m args c meth A D C cD K KR adK adV ao ad b L xs) (hd : decode cL_law pc = .ok (.arraylength, 1)) (kk : ZZ p l e R s m args below meth c cells slots Q A P n lv (.int (nI L) :: st) (pc + 1)) : ZZ p l e R s m args below meth c cells slots Q A P n lv (.ref b :: st) pc := fun H locs ls hP hS hl => by
  have hz := Z.2.2.2.2.2.2.2
  exact va_slen Z.1.1.1 Z.1.1.2 hz.1 hz.2.1 hz.2.2.1 hS hd (kk H locs ls hP hS hl)
theorem lw_lld (pc : Nat) (Z : LCx p l s m args c meth A D C cD K KR adK adV ao ad b L xs) (hd : decode cL_law pc = .ok (.laload, 1)) (kk : ZZ p l e R s m args below meth c cells slots Q A (PL D C cD K KR ao ad u v o od) n lv (.long o :: st) (pc + 1)) : ZZ p l e R s m args below meth c cells slots Q A (PL D C cD K KR ao ad u v o od) n lv (.int (nI 0) :: .ref ao :: st) pc := fun H locs ls hP hS hl =>
  va_lald Z.1.1.1 Z.1.1.2 Z.1.2.2.2 hP.2.2.1 0 2 rfl rfl (vp_in_nI (n := 0) (N := 1) (by decide) (by decide)) hd (kk H locs ls hP hS hl)
theorem lw_dld (pc : Nat) (Z : LCx p l s m args c meth A D C cD K KR adK adV ao ad b L xs) (hd : decode cL_law pc = .ok (.daload, 1)) (kk : ZZ p l e R s m args below meth c cells slots Q A (PL D C cD K KR ao ad u v o od) n lv (.double od :: st) (pc + 1)) : ZZ p l e R s m args below meth c cells slots Q A (PL D C cD K KR ao ad u v o od) n lv (.int (nI 0) :: .ref ad :: st) pc := fun H locs ls hP hS hl =>
  va_dald Z.1.1.1 Z.1.1.2 Z.2.2.2.1 hP.2.2.2 0 0 rfl rfl (vp_in_nI (n := 0) (N := 1) (by decide) (by decide)) hd (kk H locs ls hP hS hl)
theorem zf_dload (pc : Nat) (hc : p.tables.exec = Jvm.exec ∧ c.code = cc) (q : Nat) {i : Nat} {x : UInt64} (hd : decode cc pc = .ok (.dload i, 2)) (hk : lv[q]? = some (i, .double x)) (kk : ZZ p l e R s m args below meth c cells slots Q A P n lv (.double x :: st) (pc + 2)) : ZZ p l e R s m args below meth c cells slots Q A P n lv st pc := fun H locs ls hP hS hl => lv_dload hc.1 hc.2 hd (lv_at hl q hk) (kk H locs ls hP hS hl)
theorem zf_fload (pc : Nat) (hc : p.tables.exec = Jvm.exec ∧ c.code = cc) (q : Nat) {i : Nat} {x : UInt32} (hd : decode cc pc = .ok (.fload i, 2)) (hk : lv[q]? = some (i, .float x)) (kk : ZZ p l e R s m args below meth c cells slots Q A P n lv (.float x :: st) (pc + 2)) : ZZ p l e R s m args below meth c cells slots Q A P n lv st pc := fun H locs ls hP hS hl => lv_fload hc.1 hc.2 hd (lv_at hl q hk) (kk H locs ls hP hS hl)
theorem zf_dstore (pc : Nat) (hc : p.tables.exec = Jvm.exec ∧ c.code = cc) {i : Nat} {x : UInt64} (hd : decode cc pc = .ok (.dstore i, 2)) (hn : i + 1 < n) (hv : (i, Value.double x) :: lv.filter (fun q => !(q.1 == i) && (!(q.1 == i + 1) && !(q.1 + 1 == i && q.2.category == 2))) = lv') (k : ZZ p l e R s m args below meth c cells slots Q A P n lv' st (pc + 2)) : ZZ p l e R s m args below meth c cells slots Q A P n lv (.double x :: st) pc := fun H locs ls hP hS hl => lv_dstore hc.1 hc.2 hd hl hn hv (fun ls' h' => k H locs ls' hP hS h')
theorem zf_fstore (pc : Nat) (hc : p.tables.exec = Jvm.exec ∧ c.code = cc) {i : Nat} {x : UInt32} (hd : decode cc pc = .ok (.fstore i, 2)) (hn : i < n) (hv : (i, Value.float x) :: lv.filter (fun q => !(q.1 == i) && !(q.1 + 1 == i && q.2.category == 2)) = lv') (k : ZZ p l e R s m args below meth c cells slots Q A P n lv' st (pc + 2)) : ZZ p l e R s m args below meth c cells slots Q A P n lv (.float x :: st) pc := fun H locs ls hP hS hl => lv_fstore hc.1 hc.2 hd hl hn hv (fun ls' h' => k H locs ls' hP hS h')
theorem zf_dcmp (pc : Nat) (hc : p.tables.exec = Jvm.exec ∧ c.code = cc) {x y : UInt64} {op : CmpOp} {v : Int32} (hd : decode cc pc = .ok (.dcmp op, 1)) (hv : Op.cmpValue (FP.dcmp x y) op = v) (k : ZZ p l e R s m args below meth c cells slots Q A P n lv (.int v :: st) (pc + 1)) : ZZ p l e R s m args below meth c cells slots Q A P n lv (.double y :: .double x :: st) pc := fun H locs ls hP hS hl => lv_dcmp hc.1 hc.2 hd (by rw [hv]; exact k H locs ls hP hS hl)
theorem zz_tabIn (pc tgt : Nat) (hc : p.tables.exec = Jvm.exec ∧ c.code = cc) {dflt lo hi : Int} {offs : Array Int} {len : Nat} {x : Int32} {off : Int} (hd : decode cc pc = .ok (.tableswitch dflt lo hi offs, len)) (h1 : ¬ x.toInt < lo) (h2 : ¬ hi < x.toInt) (ho : offs[(x.toInt - lo).toNat]? = some off) (ht : (pc : Int) + off = (tgt : Int)) (k : ZZ p l e R s m args below meth c cells slots Q A P n lv st tgt) : ZZ p l e R s m args below meth c cells slots Q A P n lv (.int x :: st) pc := fun H locs ls hP hS hl => lv_tableIn hc.1 hc.2 hd h1 h2 ho ht (k H locs ls hP hS hl)
theorem zz_tabOut (pc tgt : Nat) (hc : p.tables.exec = Jvm.exec ∧ c.code = cc) {dflt lo hi : Int} {offs : Array Int} {len : Nat} {x : Int32} (hd : decode cc pc = .ok (.tableswitch dflt lo hi offs, len)) (h : x.toInt < lo ∨ hi < x.toInt) (ht : (pc : Int) + dflt = (tgt : Int)) (k : ZZ p l e R s m args below meth c cells slots Q A P n lv st tgt) : ZZ p l e R s m args below meth c cells slots Q A P n lv (.int x :: st) pc := fun H locs ls hP hS hl => lv_tableOut hc.1 hc.2 hd h ht (k H locs ls hP hS hl)
/-- equal numbers compare as equal -/
theorem cmp_rf (a : Int) : compare a a = Ordering.eq := by
  show (if a < a then Ordering.lt else if a = a then Ordering.eq else Ordering.gt) = Ordering.eq
  rw [if_neg (Int.lt_irrefl a), if_pos rfl]
theorem fl_ord {x : Jvm.FP.Core.Datum} (h : x ≠ .nan) : Jvm.FP.Core.order x x = some .eq := by
  cases x with
  | nan => exact absurd rfl h
  | inf s => exact congrArg some (cmp_rf _)
  | fin s a q => exact congrArg some (cmp_rf _)
theorem fl_m32 {x : UInt32} (h : vf_n32 x) : x.toNat % 2 ^ 31 ≤ 0x7f800000 := by
  unfold vf_n32 at h
  rw [UInt32.le_iff_toNat_le, UInt32.toNat_and] at h
  have e : x.toNat &&& (2 ^ 31 - 1) ≤ 2139095040 := h
  rw [Nat.and_two_pow_sub_one_eq_mod] at e
  exact e
theorem fl_m64 {x : UInt64} (h : vf_n64 x) : x.toNat % 2 ^ 63 ≤ 0x7ff0000000000000 := by
  unfold vf_n64 at h
  rw [UInt64.le_iff_toNat_le, UInt64.toNat_and] at h
  have e : x.toNat &&& (2 ^ 63 - 1) ≤ 9218868437227405312 := h
  rw [Nat.and_two_pow_sub_one_eq_mod] at e
  exact e
theorem fl_deq {x : UInt64} (h : vf_n64 x) (op : CmpOp) : Op.cmpValue (FP.dcmp x x) op = 0 := by
  have e : FP.dcmp x x = some .eq := fl_ord (fl_dn64 (fl_m64 h))
  rw [e]
  rfl
theorem fl_f2d {x : UInt32} (h : vf_n32 x) : vf_n64 (FP.f2d x) := by
  have h1 : Jvm.FP.Core.decode Jvm.FP.Core.b32 x.toNat ≠ .nan := fl_dn32 (fl_m32 h)
  have h2 : Jvm.FP.Core.fIsNaN x = false := decide_eq_false h1
  have h3 : FP.f2d x = Jvm.FP.Core.f2d x := by
    unfold FP.f2d
    rw [h2]
    rfl
  rw [h3]
  unfold vf_n64
  rw [UInt64.le_iff_toNat_le, UInt64.toNat_and]
  show (Jvm.FP.Core.convert Jvm.FP.Core.b32 Jvm.FP.Core.b64 x.toNat) % 2 ^ 64 &&& (2 ^ 63 - 1) ≤ 9218868437227405312
  rw [Nat.and_two_pow_sub_one_eq_mod, Nat.mod_mod_of_dvd _ (by decide)]
  unfold Jvm.FP.Core.convert
  revert h1
  cases Jvm.FP.Core.decode Jvm.FP.Core.b32 x.toNat with
  | nan => intro h1; exact absurd rfl h1
  | inf s => intro _; cases s <;> decide
  | fin s a q => intro _; exact fl_rr64
end LWX
