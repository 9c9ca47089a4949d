/-! The desk made. -/
section LWV
variable {p : Program} {l : Launch} {e : Env} {R : Room} {s : State} {m : MethodId} {args : Array Value} {below : List Frame} {meth : Method} {c : Code} {cells slots : Nat} {Q : State → Prop} {n : Nat} {lv lv' : List (Nat × Value)} {st st0 : List Value} {cc : ByteArray} {Ts : List Cond} {own : String} {D : va_G} {C : Nat → ClassId} {hs hs1 : Nat → Bool} {A : Nat → Prop} {ws : va_W} {s0 : Nat}
theorem zl_aald (pc : Nat) (X : CCx p s m args c cc Ts own D C) (q0 t : Nat) {a N' i : Nat} {Cn : String} {f : Nat → Option Nat} (he : ws[q0]? = some (a, .inl (C t, N', .inr (.inr (.inr (.inr f)))))) (ht : (TY C)[t]? = some (C t, .object Cn)) (hi : i < N') (hN : N' < 2 ^ 31) {v : Value} (hv : va_rf (f i) = v) (hd : decode cc pc = .ok (.aaload, 1)) (kk : ZZ p l e R s m args below meth c cells slots Q A (LPw A D ws) n lv (v :: st) (pc + 1)) : ZZ p l e R s m args below meth c cells slots Q A (LPw A D ws) n lv (.int (nI i) :: .ref a :: st) pc := fun H locs ls hP hS hl =>
  va_aldq X.1.1 X.1.2 X.2.2.2 hP.1 q0 t he ht (vp_in_nI hi hN) hd (by rw [nI_clamp (Nat.lt_trans hi hN), hv]; exact kk H locs ls hP hS hl)
def rf (z : List Nat) : Nat → Option Nat := fun j => z[j]?
theorem rf_0 : rf [] = fun _ => none := funext fun j => by unfold rf; exact List.getElem?_nil
theorem rf_up {z : List Nat} {k q : Nat} (hk : k = z.length) : rf (z ++ [q]) = va_up (rf z) k (some q) := by
  subst hk
  funext j
  unfold va_up rf
  by_cases h : j = z.length
  · rw [if_pos h, h, List.getElem?_append_right (Nat.le_refl _), Nat.sub_self]; rfl
  · rw [if_neg h]
    by_cases h2 : j < z.length
    · rw [List.getElem?_append_left h2]
    · rw [List.getElem?_eq_none (show (z ++ [q]).length ≤ j by rw [List.length_append]; show z.length + 1 ≤ j; omega), List.getElem?_eq_none (show z.length ≤ j by omega)]
theorem WH_0 (s : Nat) : WH (fun _ => false) s = fun _ => 0 := funext fun k => (wd_0 (fun _ _ => rfl)).symm
theorem zl_callQ2 (pc : Nat) (X : CCx p s m args c cc Ts own D C) (hml : c.maxLocals = n) (hA : ∀ q, s.heap.size ≤ q → A q) (i j : Nat) {q u : Nat} (hi : ws[i]? = some (q, .inr (0, [.ref u]))) (hj : ws[j]? = some (u, .inl (C 2, 16, .inr (.inl (WH hs s0))))) {y : MethodName} {ws1 ws' : List Cond} {rm : Room} {As : List Value} {maxL index na : Nat} {ret : Option FieldType} {bytes : ByteArray} (F : Nat → Int32) (G T : Nat → Nat → Int32) (hM : ∀ K : Nat → Nat, DQp s0 K → QMv s0 l y ws1 rm D C K (20 + s0) As F hs G T (fun u => u = (F, hs1, G, T))) (g : GoodIn Ts (wsV own index RX0 y ws1)) (hw : ws1 = Cond.code y bytes maxL ret :: ws') (hr : rm.cells = 0 ∧ rm.slots = 0)
  (hd1 : y.cls = RX0 ∧ y.cls ≠ "java/lang/invoke/MethodHandle" ∧ y.cls ≠ "java/lang/invoke/VarHandle" ∧ (parseMethodDescriptor y.desc).map (fun d => d.parameters.length) = some na) (hR : rm.frames + 1 ≤ R.frames ∧ 8 + (maxL + 11) + rm.locals ≤ R.locals) (hn : As.length = na) (hs0 : st0 = As.reverse ++ .ref q :: st) (hwd : (st.map fun v => v.category).sum ≤ 8) (hf : cells ≤ R.cells ∧ slots ≤ R.slots) (hd : decode cc pc = .ok (.invokevirtual index, 3))
  (kk : ZZ p l e R s m args below meth c cells slots Q A (LPw A D (ws.set j (u, .inl (C 2, 16, .inr (.inl (WH hs1 s0)))))) n lv st (pc + 3)) : ZZ p l e R s m args below meth c cells slots Q A (LPw A D ws) n lv st0 pc := by
  intro H locs ls hP hS hl
  have hne : q ≠ u := fun z => by
    have e := hP.2.1 i j _ _ hi hj z
    subst e
    rw [hi] at hj
    cases hj
  obtain ⟨K, hK1, hK2⟩ : ∃ K : Nat → Nat, K (20 + s0) = q ∧ K (30 + s0) = u := ⟨fun j => if j = 20 + s0 then q else u, if_pos rfl, if_neg (by omega)⟩
  subst hK1
  subst hK2
  exact zl_callQ pc X hml hA i j hi hj (hM K hne) g hw hr hd1 hR hn hs0 hwd hf hd kk H locs ls hP hS hl
theorem zl_callIX (N : State → Prop) (hNc : ∀ (U : State) (g : JFrame) (mk : MethodId) (a : Array Value), N U → N (U.calling g mk a)) (hNw : ∀ U : State, s.WarmedH U.vm → N U) (pc : Nat) (X : CCx p s m args c cc Ts own D C) (hml : c.maxLocals = n) (hA : ∀ q, s.heap.size ≤ q → A q) {y : MethodName} {bytes : ByteArray} {maxL mc ms index : Nat} {ws' : List Cond} {rm : Room} {σ : Type} {wI : σ → va_W} {q0 : Nat} {e0 : va_E}
  (hM : ∀ sz : Nat, Met l y ws' rm (va_Pc [.ref q0] (zz_E (fun _ U => va_P D vwCl [(q0, e0)] U.heap ∧ va_K D vwCl (TY C) U ∧ N U) sz)) (va_Qv (fun _ : σ => True) (fun u t => LPw (zz_A (fun q => q = q0) sz) D (wI u) t.heap) (zz_A (fun q => q = q0) sz)) mc ms (zz_A (fun q => q = q0) sz))
  (cw : CallB R s args own index y bytes maxL none ws' rm mc ms 0 ∧ y.name = "<init>" ∧ (Cond.instanceMethod y).before args s = true) (hwd : (st.map fun v => v.category).sum ≤ 8) (hf : cells + mc ≤ R.cells ∧ slots + ms ≤ R.slots) (hd : decode cc pc = .ok (.invokespecial index, 3))
  (kk : ∀ u : σ, ZZ p l e R s m args below meth c (cells + mc) (slots + ms) Q A (LPw A D (ws ++ wI u)) n lv st (pc + 3)) : ZZ p l e R s m args below meth c cells slots Q A (LPw A D (ws ++ [(q0, e0)])) n lv (.ref q0 :: st) pc := by
  intro H locs ls hP hS hl
  have hAq : A q0 := hP.2.2 ws.length (q0, e0) (by rw [List.getElem?_append_right (Nat.le_refl _), Nat.sub_self]; rfl)
  have hF : ∀ q, zz_A (fun q => q = q0) H.size q → A q := fun q h => h.elim (fun z => z ▸ hAq) (fun z => hA q (Nat.le_trans hS.1 z))
  have hne : ∀ (k : Nat) (x : Nat × va_E), ws[k]? = some x → x.1 < H.size ∧ x.1 ≠ q0 := fun k x hx => by
    have hk : k < ws.length := (List.getElem?_eq_some_iff.mp hx).1
    have h1 : (ws ++ [(q0, e0)])[k]? = some x := by rw [List.getElem?_append_left hk]; exact hx
    refine ⟨va_at.lt (hP.1 k x h1), fun z => ?_⟩
    have h2 := hP.2.1 k ws.length x (q0, e0) h1 (by rw [List.getElem?_append_right (Nat.le_refl _), Nat.sub_self]; rfl) z
    omega
  refine va_callv (va_runI (As := []) (rest := st) ⟨X.1.1, X.1.2, hml, X.2.2.1, X.2.1⟩ (hM H.size) cw ⟨fun a U g mk q => ⟨q.1, q.2.1, q.2.2.1, va_K.moved (u := U) (U := U.calling g mk a) (Vm.Alike.refl U.vm) q.2.2.2.1, hNc U g mk a q.2.2.2.2⟩, fun U hU hW => ⟨rfl, by rw [hU], by rw [hU]; exact P_right hP.1, va_K.moved hW.alike X.2.2.2, hNw U hW⟩⟩ rfl rfl hl.1 rfl (lv_room hwd) hd hf) hS (fun q _ h => hF q h) hF (fun u t H1 locs1 ht hvm _ hB hz hk hS1 => ?_)
  subst ht
  refine kk u t.heap locs1 ls ⟨?_, ?_⟩ hS1 hl
  · exact (va_P.kept (P_left hP.1) (fun k q hq => hk q.1 (hne k q hq).1 (fun z => z.elim (hne k q hq).2 (fun z => absurd (hne k q hq).1 (Nat.not_lt.mpr z))))).app hB.1
  · refine va_D.app (D_left hP.2) (hB.2.weaken (fun _ q _ z => hF q.1 z)) (fun i j x y hx hy hxy => ?_)
    have h1 := hne i x hx
    have h2 := hB.2.2 j y hy
    rw [← hxy] at h2
    exact h2.elim h1.2 (fun z => absurd h1.1 (Nat.not_lt.mpr z))
/-- the left part of a list picked anew -/
theorem LPw_sub {w1 w1' w2 : va_W} {H : Heap} (is : List Nat) (hn : va_nd is = true) (hs : is.map (fun i => w1[i]?) = w1'.map some) (hf : is.filterMap (fun i => w1[i]?) = w1') (h : LPw A D (w1 ++ w2) H) : LPw A D (w1' ++ w2) H := by
  refine ⟨((P_left h.1).sub is hf).app (P_right h.1), va_D.app ((D_left h.2).sub is hn hs) ⟨fun i j x y hx hy hxy => ?_, fun k x hx => ?_⟩ (fun i j x y hx hy hxy => ?_)⟩
  · have h1 : (w1 ++ w2)[w1.length + i]? = some x := by rw [List.getElem?_append_right (Nat.le_add_right _ _), Nat.add_sub_cancel_left]; exact hx
    have h2 : (w1 ++ w2)[w1.length + j]? = some y := by rw [List.getElem?_append_right (Nat.le_add_right _ _), Nat.add_sub_cancel_left]; exact hy
    have := h.2.1 _ _ x y h1 h2 hxy
    omega
  · exact h.2.2 (w1.length + k) x (by rw [List.getElem?_append_right (Nat.le_add_right _ _), Nat.add_sub_cancel_left]; exact hx)
  · have hm : x ∈ w1' := List.mem_of_getElem? hx
    rw [← hf] at hm
    obtain ⟨k, -, hk⟩ := List.mem_filterMap.mp hm
    have h1 : (w1 ++ w2)[k]? = some x := by rw [List.getElem?_append_left (List.getElem?_eq_some_iff.mp hk).1]; exact hk
    have h2 : (w1 ++ w2)[w1.length + j]? = some y := by rw [List.getElem?_append_right (Nat.le_add_right _ _), Nat.add_sub_cancel_left]; exact hy
    have := h.2.1 _ _ x y h1 h2 hxy
    have := (List.getElem?_eq_some_iff.mp hk).1
    omega
theorem LPw_mid {w1 w2 w3 : va_W} {H : Heap} (h : LPw A D ((w1 ++ w2) ++ w3) H) : LPw A D ((w1 ++ w3) ++ w2) H := by
  have hl : ∀ {x : Nat × va_E} {k : Nat}, ((w1 ++ w3) ++ w2)[k]? = some x → (k < w1.length ∧ ((w1 ++ w2) ++ w3)[k]? = some x) ∨ (w1.length ≤ k ∧ k < w1.length + w3.length ∧ ((w1 ++ w2) ++ w3)[k + w2.length]? = some x) ∨ (w1.length + w3.length ≤ k ∧ ((w1 ++ w2) ++ w3)[k - w3.length]? = some x ∧ k - w3.length < w1.length + w2.length) := by
    intro x k hk
    by_cases h1 : k < w1.length
    · refine Or.inl ⟨h1, ?_⟩
      rw [List.append_assoc, List.getElem?_append_left h1] at hk ⊢
      exact hk
    · by_cases h2 : k < w1.length + w3.length
      · refine Or.inr (Or.inl ⟨by omega, h2, ?_⟩)
        rw [List.getElem?_append_left (by rw [List.length_append]; exact h2), List.getElem?_append_right (by omega)] at hk
        rw [List.getElem?_append_right (by rw [List.length_append]; omega), List.length_append, show k + w2.length - (w1.length + w2.length) = k - w1.length by omega]
        exact hk
      · rw [List.getElem?_append_right (by rw [List.length_append]; omega), List.length_append] at hk
        have h3 := (List.getElem?_eq_some_iff.mp hk).1
        refine Or.inr (Or.inr ⟨by omega, ?_, by omega⟩)
        rw [List.getElem?_append_left (by rw [List.length_append]; omega), List.getElem?_append_right (by omega), show k - w3.length - w1.length = k - (w1.length + w3.length) by omega]
        exact hk
  refine ⟨fun k x hk => ?_, fun i j x y hi hj hxy => ?_, fun k x hk => ?_⟩
  · rcases hl hk with ⟨_, a⟩ | ⟨_, _, a⟩ | ⟨_, a, _⟩ <;> exact h.1 _ x a
  · rcases hl hi with ⟨_, a⟩ | ⟨_, _, a⟩ | ⟨_, a, _⟩ <;> rcases hl hj with ⟨_, b⟩ | ⟨_, _, b⟩ | ⟨_, b, _⟩ <;> have := h.2.1 _ _ x y a b hxy <;> omega
  · rcases hl hk with ⟨_, a⟩ | ⟨_, _, a⟩ | ⟨_, a, _⟩ <;> exact h.2.2 _ x a
theorem LPw_cell {H : Heap} (i : Nat) {a : Nat} {x y : vp_A} {cA : ClassId} (he : ws[i]? = some (a, .inl (cA, x))) (hxy : vp_cell cA x = vp_cell cA y) (h : LPw A D ws H) : LPw A D (ws.set i (a, .inl (cA, y))) H := by
  refine ⟨fun k z hk => ?_, h.2.set he⟩
  by_cases hki : k = i
  · subst hki
    rw [List.getElem?_set_self (List.getElem?_eq_some_iff.mp he).1] at hk
    cases hk
    have h1 := h.1 k _ he
    show H[a]? = some (vp_cell cA y)
    rw [← hxy]
    exact h1
  · rw [List.getElem?_set_ne (fun z => hki z.symm)] at hk
    exact h.1 k z hk
end LWV
def hZ : Nat → Bool := fun _ => false
def hA1 : Nat → Bool := sS hZ 0 (pR (hM hZ 0) 0 10 true)
def hB : Nat → Nat → Bool
  | 0 => hZ
  | k + 1 => sS (hB k) 1 (p1 (hM (hB k) 1) (2 * k) true)
def fsT : List Nat := [1, 2, 3, 5, 8, 13, 21, 63, 64, 127, 128]
def hC2 : Nat → Nat → Bool
  | 0 => hZ
  | k + 1 => sS (hC2 k) 2 (p1 (hM (hC2 k) 2) (fsT.getD k 0) true)
def hq0 : Nat → Nat → Bool
  | 0 => hA1
  | 1 => hB 10
  | 2 => hC2 11
  | _ => hZ
set_option maxRecDepth 100000 in
theorem hq_bits : ∀ s, s < 8 → ∀ k, k < 16 → ∀ i, i < 64 → hq0 s (1024 * s + (64 * k + i)) = hs00 (1024 * s + (64 * k + i)) := by decide +kernel
theorem hq_ok (s : Nat) (hs : s < 8) (k : Nat) (hk : k < 16) : WH (hq0 s) s k = WH hs00 s k := wd_cong (fun i hi => hq_bits s hs k hk i hi)
/-- the places that hold no cell of the desk's own point to the desk -/
def KU (K : Nat → Nat) : Prop := ∀ k, k < 200 → (k < 13 ∨ (20 ≤ k ∧ k < 28) ∨ (30 ≤ k ∧ k < 38) ∨ 100 ≤ k) ∨ K k = K 0
def cF0 : Nat → Int32 := fun k => if k = 16 then -1 else if k = 17 then -1 else 0
/-- what the desk's constructor needs beside its words -/
def NX6 (t : Nat) (Z : Nat → Prop) (U : State) : Prop := NX1 U ∧ va_AO RX0 U ∧ va_Nw (.methodLinkNest RX6 15 yX0_init "NumberSetDesk") U ∧ va_Nw (.methodLinkNest RX6 30 yX3_init "NumberSetDesk") U ∧ va_Nw (.methodLinkNest RX6 44 yX4_init "NumberSetDesk") U ∧ va_Z RX6 "FIRST_OF_SET_2" "[I" (.ref t) Z U U.heap ∧ va_T .int t 11 (fun j => .int (nI (fsT.getD j 0))) Z U U.heap
theorem NX1.calling {U : State} (h : NX1 U) (g : JFrame) (mk : MethodId) (a : Array Value) : NX1 (U.calling g mk a) := ⟨va_AO.moved (u := U) (U := U.calling g mk a) (Vm.Alike.refl U.vm) h.1, va_Nw.same rfl (u := U) (U := U.calling g mk a) rfl h.2.1, va_Nw.same rfl (u := U) (U := U.calling g mk a) rfl h.2.2⟩
theorem NX1.warm {s U : State} (hW : s.WarmedH U.vm) (h : NX1 s) : NX1 U := ⟨va_AO.moved hW.alike h.1, va_Nw.warmM hW h.2.1, va_Nw.warmM hW h.2.2⟩
theorem DW_fst {C C' : Nat → ClassId} {K : Nat → Nat} {F F' : Nat → Int32} {W W' : Nat → Nat → Int64} {G G' T T' : Nat → Nat → Int32} : (DW C K F W G T).map Prod.fst = (DW C' K F' W' G' T').map Prod.fst := by
  simp [DW, DW1, DW2, DW3, DW4, Function.comp_def]
theorem h6_u6 : ∀ w ∈ u_ws RX6 TX6 7, w ∈ wsX6_init := by decide +kernel
theorem h6_sets : Cond.fieldLink RX6 11 RX6 (TX6 0).2.1 (TX6 0).2.2.1 ∈ wsX6_init := by decide +kernel
theorem h6_u0 : ∀ w ∈ u_ws RX0 TX0 1, w ∈ wsX6_init := by decide +kernel
theorem h6_cl0 : Cond.classLink RX6 9 RX0 ∈ wsX6_init := by decide +kernel
theorem h6_in0 : Cond.instantiable RX0 1 ∈ wsX6_init := by decide +kernel
theorem h6_ini0 : Cond.initialized RX0 ∈ wsX6_init := by decide +kernel
theorem h6_inst0 : Cond.instanceMethod yX0_init ∈ wsX6_init := by decide +kernel
theorem h6_d0 : yX0_init.cls ≠ "java/lang/invoke/MethodHandle" ∧ yX0_init.cls ≠ "java/lang/invoke/VarHandle" ∧ (parseMethodDescriptor yX0_init.desc).map (fun d => d.parameters.length) = some 0 := by decide +kernel
theorem h6_f2 : Cond.fieldLink RX6 24 RX6 "FIRST_OF_SET_2" "[I" ∈ wsX6_init := by decide +kernel
abbrev rm_X6_init : Room := { frames := 4, cells := 128, slots := 7693, locals := 120 }
set_option maxHeartbeats 40000000 in
set_option maxRecDepth 100000 in
theorem kt_X6_init (l : Launch) (D : va_G) (C : Nat → ClassId) (h0 tb : Nat) : ∀ sz : Nat, Met l yX6_init wsX6_init rm_X6_init (va_Pc [.ref h0] (zz_E (fun sz U => (va_P D vwCl [(h0, .inr (6, [.null, .null, .null, .null, .int 0, .int 0, .int 0]))] U.heap ∧ va_K D vwCl (TY C) U) ∧ NX6 tb (zz_A (fun q => q = h0) sz) U) sz)) (va_Qv (fun K : Nat → Nat => K 0 = h0 ∧ KU K) (fun K t => LPw (zz_A (fun q => q = h0) sz) D (DW C K cF0 (WH hs00) (fun _ _ => 0) (fun _ _ => 0)) t.heap) (zz_A (fun q => q = h0) sz)) 128 7693 (zz_A (fun q => q = h0) sz) := by
  intro sz
  refine Met.ofW (cc := cX6_init) (maxL := 5) (ret := none) (by decide) rfl ?_
  intro p e s m args below meth c s₁ B hml hv
  obtain ⟨rfl, rfl, ⟨hP0, hK⟩, hN⟩ := hv
  have hin2 : meth.name = "<init>" := (name_of_methodNamed B.named B.method).1
  have hr := B.returns
  have hlk := B.notSynchronized
  have X : CCx p s m (#[Value.ref h0]) c cX6_init wsX6_init RX6 D C := ⟨⟨B.exec, B.bytes⟩, atoms_spec (ws := wsX6_init) B.pre, findClass_of_methodNamed B.named, hK⟩
  have hA : ∀ q : Nat, s.heap.size ≤ q → (zz_A (fun q => q = h0) s.heap.size) q := fun q h => Or.inr h
  have hZ6 := hN.2.2.2.2.2.1
  have hT6 := hN.2.2.2.2.2.2
  refine zz_enter (A := (zz_A (fun q => q = h0) s.heap.size)) (P := LPw (zz_A (fun q => q = h0) s.heap.size) D [(h0, .inr (6, [.null, .null, .null, .null, .int 0, .int 0, .int 0]))]) [.ref h0] 5 (Nat.le_of_ble_eq_true rfl) (lv := [(0, .ref h0)]) rfl ⟨hP0, D_one (Or.inl rfl)⟩ ?_
  obtain ⟨args, hargs⟩ : ∃ args, args = (#[Value.ref h0] : Array Value) := ⟨_, rfl⟩
  rw [← hargs] at X
  show ZZ p l e rm_X6_init s m (#[Value.ref h0]) below meth c 0 0 (MQ below _ (#[Value.ref h0]) s 128 7693 _) _ _ _ _ _ _
  rw [← hargs]
  generalize hQ : MQ below _ _ s 128 7693 _ = Q
  refine zz_aload_n 0 X.1 0 dX6_init_0 rfl ?_
  refine zl_init 1 X hml (by decide +kernel) (by decide +kernel) (by decide +kernel) dX6_init_1 ⟨Nat.le_of_ble_eq_true rfl, Nat.le_of_ble_eq_true rfl⟩ ?_
  refine zz_aload_n 4 X.1 0 dX6_init_4 rfl ?_
  refine zz_bipush 5 X.1 (v := nI 8) dX6_init_5 rfl ?_
  refine zl_newq 7 X hA 4 rfl h6_cl0 hN.2.1 (N' := 8) (by decide) (by decide) ⟨Nat.le_of_ble_eq_true rfl, Nat.le_of_ble_eq_true rfl⟩ dX6_init_7 ?_
  intro qa1
  refine zz_world (P' := (LPw (zz_A (fun q => q = h0) s.heap.size) D [(h0, .inr (6, [.null, .null, .null, .null, .int 0, .int 0, .int 0])), (qa1, .inl (C 4, 8, .inr (.inr (.inr (.inr (rf []))))))])) (fun _ h => by rw [rf_0]; exact h) ?_
  refine zl_putF 10 X hin2 h6_u6 tyX6 tyX6_ok nmX6 rfl 0 rfl 0 (by decide) (by decide +kernel) rfl rfl (v := .ref qa1) rfl rfl rfl (Nat.le_of_ble_eq_true rfl) dX6_init_10 ?_
  refine zz_world (P' := (LPw (zz_A (fun q => q = h0) s.heap.size) D [(h0, .inr (6, [.ref qa1, .null, .null, .null, .int 0, .int 0, .int 0])), (qa1, .inl (C 4, 8, .inr (.inr (.inr (.inr (rf []))))))])) (fun _ h => h) ?_
  refine zz_iconst 13 X.1 (v := nI 0) dX6_init_13 rfl ?_
  refine zz_istore_n 14 X.1 (lv' := [(1, .int (nI 0)), (0, .ref h0)]) dX6_init_14 (by decide) rfl ?_
  refine zz_iload_n 15 X.1 0 dX6_init_15 rfl ?_
  refine zz_bipush 16 X.1 (v := nI 8) dX6_init_16 rfl ?_
  refine zz_icmp_ge 18 40 X.1 (nI_toInt (by omega)) (nI_toInt (by omega)) dX6_init_18 (by decide) (fun h18 => ?_) (fun h18 => ?_)
  · exfalso; omega
  · skip
    refine zz_aload_n 21 X.1 1 dX6_init_21 rfl ?_
    refine zl_get 22 X h6_u6 rfl 0 rfl 0 (by decide) h6_sets rfl (v := .ref qa1) rfl dX6_init_22 ?_
    refine zz_iload_n 25 X.1 0 dX6_init_25 rfl ?_
    refine zl_new 26 X hA h6_u0 tyX0 tyX0_ok h6_cl0 h6_in0 h6_ini0 (ci := 0) rfl (fs := [.null]) (by decide +kernel) ⟨Nat.le_of_ble_eq_true rfl, Nat.le_of_ble_eq_true rfl⟩ dX6_init_26 ?_
    intro qn2
    refine zz_world (P' := (LPw (zz_A (fun q => q = h0) s.heap.size) D [(h0, .inr (6, [.ref qa1, .null, .null, .null, .int 0, .int 0, .int 0])), (qa1, .inl (C 4, 8, .inr (.inr (.inr (.inr (rf [])))))), (qn2, .inr (0, [.null]))])) (fun _ h => h) ?_
    refine zz_dup 29 X.1 dX6_init_29 rfl ?_
    refine zz_world (P' := LPw (zz_A (fun q => q = h0) s.heap.size) D ([(h0, .inr (6, [.ref qa1, .null, .null, .null, .int 0, .int 0, .int 0])), (qa1, .inl (C 4, 8, .inr (.inr (.inr (.inr (rf []))))))] ++ [(qn2, .inr (0, [.null]))])) (fun _ h => h) ?_
    refine zl_callIN 30 X hml hA (kt_X0_init l D C qn2) ⟨va_cnB 0 X.2.1 gX6_init_X0_init_n15 rfl rfl rfl hN.2.2.1 (X.2.1 (.initialized RX0) h6_ini0) h6_d0 ⟨Nat.le_of_ble_eq_true rfl, Nat.le_of_ble_eq_true rfl⟩, rfl, X.2.1 (.instanceMethod yX0_init) h6_inst0⟩ (Nat.le_of_ble_eq_true rfl) ⟨Nat.le_of_ble_eq_true rfl, Nat.le_of_ble_eq_true rfl⟩ dX6_init_30 ?_
    intro ui3
    refine zz_world (P' := (LPw (zz_A (fun q => q = h0) s.heap.size) D [(h0, .inr (6, [.ref qa1, .null, .null, .null, .int 0, .int 0, .int 0])), (qa1, .inl (C 4, 8, .inr (.inr (.inr (.inr (rf [])))))), (qn2, .inr (0, [.ref ui3])), (ui3, .inl (C 2, 16, .inr (.inl (WH hZ 0))))])) (fun _ h => by rw [show WH hZ 0 = fun _ => 0 from WH_0 0]; exact h) ?_
    refine zl_aast 33 X 1 4 2 0 (r := (RX0, TX0, 1)) rfl rfl rfl rfl (Nat.le_of_ble_eq_true rfl) (by decide) dX6_init_33 ?_
    refine zz_world (P' := (LPw (zz_A (fun q => q = h0) s.heap.size) D [(h0, .inr (6, [.ref qa1, .null, .null, .null, .int 0, .int 0, .int 0])), (qa1, .inl (C 4, 8, .inr (.inr (.inr (.inr (rf [qn2])))))), (qn2, .inr (0, [.ref ui3])), (ui3, .inl (C 2, 16, .inr (.inl (WH hZ 0))))])) (fun _ h => by rw [show rf [qn2] = va_up (rf []) 0 (some qn2) from rf_up (z := []) rfl]; exact h) ?_
    refine zz_iinc 34 X.1 0 (v := (nI 1)) (lv' := [(1, .int (nI 1)), (0, .ref h0)]) dX6_init_34 rfl (nI_add _ _) (by decide) rfl ?_
    refine zz_goto 37 15 X.1 dX6_init_37 (by decide) ?_
    refine zz_iload_n 15 X.1 0 dX6_init_15 rfl ?_
    refine zz_bipush 16 X.1 (v := nI 8) dX6_init_16 rfl ?_
    refine zz_icmp_ge 18 40 X.1 (nI_toInt (by omega)) (nI_toInt (by omega)) dX6_init_18 (by decide) (fun h18 => ?_) (fun h18 => ?_)
    · exfalso; omega
    · skip
      refine zz_aload_n 21 X.1 1 dX6_init_21 rfl ?_
      refine zl_get 22 X h6_u6 rfl 0 rfl 0 (by decide) h6_sets rfl (v := .ref qa1) rfl dX6_init_22 ?_
      refine zz_iload_n 25 X.1 0 dX6_init_25 rfl ?_
      refine zl_new 26 X hA h6_u0 tyX0 tyX0_ok h6_cl0 h6_in0 h6_ini0 (ci := 0) rfl (fs := [.null]) (by decide +kernel) ⟨Nat.le_of_ble_eq_true rfl, Nat.le_of_ble_eq_true rfl⟩ dX6_init_26 ?_
      intro qn4
      refine zz_world (P' := (LPw (zz_A (fun q => q = h0) s.heap.size) D [(h0, .inr (6, [.ref qa1, .null, .null, .null, .int 0, .int 0, .int 0])), (qa1, .inl (C 4, 8, .inr (.inr (.inr (.inr (rf [qn2])))))), (qn2, .inr (0, [.ref ui3])), (ui3, .inl (C 2, 16, .inr (.inl (WH hZ 0)))), (qn4, .inr (0, [.null]))])) (fun _ h => h) ?_
      refine zz_dup 29 X.1 dX6_init_29 rfl ?_
      refine zz_world (P' := LPw (zz_A (fun q => q = h0) s.heap.size) D ([(h0, .inr (6, [.ref qa1, .null, .null, .null, .int 0, .int 0, .int 0])), (qa1, .inl (C 4, 8, .inr (.inr (.inr (.inr (rf [qn2])))))), (qn2, .inr (0, [.ref ui3])), (ui3, .inl (C 2, 16, .inr (.inl (WH hZ 0))))] ++ [(qn4, .inr (0, [.null]))])) (fun _ h => h) ?_
      refine zl_callIN 30 X hml hA (kt_X0_init l D C qn4) ⟨va_cnB 0 X.2.1 gX6_init_X0_init_n15 rfl rfl rfl hN.2.2.1 (X.2.1 (.initialized RX0) h6_ini0) h6_d0 ⟨Nat.le_of_ble_eq_true rfl, Nat.le_of_ble_eq_true rfl⟩, rfl, X.2.1 (.instanceMethod yX0_init) h6_inst0⟩ (Nat.le_of_ble_eq_true rfl) ⟨Nat.le_of_ble_eq_true rfl, Nat.le_of_ble_eq_true rfl⟩ dX6_init_30 ?_
      intro ui5
      refine zz_world (P' := (LPw (zz_A (fun q => q = h0) s.heap.size) D [(h0, .inr (6, [.ref qa1, .null, .null, .null, .int 0, .int 0, .int 0])), (qa1, .inl (C 4, 8, .inr (.inr (.inr (.inr (rf [qn2])))))), (qn2, .inr (0, [.ref ui3])), (ui3, .inl (C 2, 16, .inr (.inl (WH hZ 0)))), (qn4, .inr (0, [.ref ui5])), (ui5, .inl (C 2, 16, .inr (.inl (WH hZ 1))))])) (fun _ h => by rw [show WH hZ 1 = fun _ => 0 from WH_0 1]; exact h) ?_
      refine zl_aast 33 X 1 4 4 0 (r := (RX0, TX0, 1)) rfl rfl rfl rfl (Nat.le_of_ble_eq_true rfl) (by decide) dX6_init_33 ?_
      refine zz_world (P' := (LPw (zz_A (fun q => q = h0) s.heap.size) D [(h0, .inr (6, [.ref qa1, .null, .null, .null, .int 0, .int 0, .int 0])), (qa1, .inl (C 4, 8, .inr (.inr (.inr (.inr (rf [qn2, qn4])))))), (qn2, .inr (0, [.ref ui3])), (ui3, .inl (C 2, 16, .inr (.inl (WH hZ 0)))), (qn4, .inr (0, [.ref ui5])), (ui5, .inl (C 2, 16, .inr (.inl (WH hZ 1))))])) (fun _ h => by rw [show rf [qn2, qn4] = va_up (rf [qn2]) 1 (some qn4) from rf_up (z := [qn2]) rfl]; exact h) ?_
      refine zz_iinc 34 X.1 0 (v := (nI 2)) (lv' := [(1, .int (nI 2)), (0, .ref h0)]) dX6_init_34 rfl (nI_add _ _) (by decide) rfl ?_
      refine zz_goto 37 15 X.1 dX6_init_37 (by decide) ?_
      refine zz_iload_n 15 X.1 0 dX6_init_15 rfl ?_
      refine zz_bipush 16 X.1 (v := nI 8) dX6_init_16 rfl ?_
      refine zz_icmp_ge 18 40 X.1 (nI_toInt (by omega)) (nI_toInt (by omega)) dX6_init_18 (by decide) (fun h18 => ?_) (fun h18 => ?_)
      · exfalso; omega
      · skip
        refine zz_aload_n 21 X.1 1 dX6_init_21 rfl ?_
        refine zl_get 22 X h6_u6 rfl 0 rfl 0 (by decide) h6_sets rfl (v := .ref qa1) rfl dX6_init_22 ?_
        refine zz_iload_n 25 X.1 0 dX6_init_25 rfl ?_
        refine zl_new 26 X hA h6_u0 tyX0 tyX0_ok h6_cl0 h6_in0 h6_ini0 (ci := 0) rfl (fs := [.null]) (by decide +kernel) ⟨Nat.le_of_ble_eq_true rfl, Nat.le_of_ble_eq_true rfl⟩ dX6_init_26 ?_
        intro qn6
        refine zz_world (P' := (LPw (zz_A (fun q => q = h0) s.heap.size) D [(h0, .inr (6, [.ref qa1, .null, .null, .null, .int 0, .int 0, .int 0])), (qa1, .inl (C 4, 8, .inr (.inr (.inr (.inr (rf [qn2, qn4])))))), (qn2, .inr (0, [.ref ui3])), (ui3, .inl (C 2, 16, .inr (.inl (WH hZ 0)))), (qn4, .inr (0, [.ref ui5])), (ui5, .inl (C 2, 16, .inr (.inl (WH hZ 1)))), (qn6, .inr (0, [.null]))])) (fun _ h => h) ?_
        refine zz_dup 29 X.1 dX6_init_29 rfl ?_
        refine zz_world (P' := LPw (zz_A (fun q => q = h0) s.heap.size) D ([(h0, .inr (6, [.ref qa1, .null, .null, .null, .int 0, .int 0, .int 0])), (qa1, .inl (C 4, 8, .inr (.inr (.inr (.inr (rf [qn2, qn4])))))), (qn2, .inr (0, [.ref ui3])), (ui3, .inl (C 2, 16, .inr (.inl (WH hZ 0)))), (qn4, .inr (0, [.ref ui5])), (ui5, .inl (C 2, 16, .inr (.inl (WH hZ 1))))] ++ [(qn6, .inr (0, [.null]))])) (fun _ h => h) ?_
        refine zl_callIN 30 X hml hA (kt_X0_init l D C qn6) ⟨va_cnB 0 X.2.1 gX6_init_X0_init_n15 rfl rfl rfl hN.2.2.1 (X.2.1 (.initialized RX0) h6_ini0) h6_d0 ⟨Nat.le_of_ble_eq_true rfl, Nat.le_of_ble_eq_true rfl⟩, rfl, X.2.1 (.instanceMethod yX0_init) h6_inst0⟩ (Nat.le_of_ble_eq_true rfl) ⟨Nat.le_of_ble_eq_true rfl, Nat.le_of_ble_eq_true rfl⟩ dX6_init_30 ?_
        intro ui7
        refine zz_world (P' := (LPw (zz_A (fun q => q = h0) s.heap.size) D [(h0, .inr (6, [.ref qa1, .null, .null, .null, .int 0, .int 0, .int 0])), (qa1, .inl (C 4, 8, .inr (.inr (.inr (.inr (rf [qn2, qn4])))))), (qn2, .inr (0, [.ref ui3])), (ui3, .inl (C 2, 16, .inr (.inl (WH hZ 0)))), (qn4, .inr (0, [.ref ui5])), (ui5, .inl (C 2, 16, .inr (.inl (WH hZ 1)))), (qn6, .inr (0, [.ref ui7])), (ui7, .inl (C 2, 16, .inr (.inl (WH hZ 2))))])) (fun _ h => by rw [show WH hZ 2 = fun _ => 0 from WH_0 2]; exact h) ?_
        refine zl_aast 33 X 1 4 6 0 (r := (RX0, TX0, 1)) rfl rfl rfl rfl (Nat.le_of_ble_eq_true rfl) (by decide) dX6_init_33 ?_
        refine zz_world (P' := (LPw (zz_A (fun q => q = h0) s.heap.size) D [(h0, .inr (6, [.ref qa1, .null, .null, .null, .int 0, .int 0, .int 0])), (qa1, .inl (C 4, 8, .inr (.inr (.inr (.inr (rf [qn2, qn4, qn6])))))), (qn2, .inr (0, [.ref ui3])), (ui3, .inl (C 2, 16, .inr (.inl (WH hZ 0)))), (qn4, .inr (0, [.ref ui5])), (ui5, .inl (C 2, 16, .inr (.inl (WH hZ 1)))), (qn6, .inr (0, [.ref ui7])), (ui7, .inl (C 2, 16, .inr (.inl (WH hZ 2))))])) (fun _ h => by rw [show rf [qn2, qn4, qn6] = va_up (rf [qn2, qn4]) 2 (some qn6) from rf_up (z := [qn2, qn4]) rfl]; exact h) ?_
        refine zz_iinc 34 X.1 0 (v := (nI 3)) (lv' := [(1, .int (nI 3)), (0, .ref h0)]) dX6_init_34 rfl (nI_add _ _) (by decide) rfl ?_
        refine zz_goto 37 15 X.1 dX6_init_37 (by decide) ?_
        refine zz_iload_n 15 X.1 0 dX6_init_15 rfl ?_
        refine zz_bipush 16 X.1 (v := nI 8) dX6_init_16 rfl ?_
        refine zz_icmp_ge 18 40 X.1 (nI_toInt (by omega)) (nI_toInt (by omega)) dX6_init_18 (by decide) (fun h18 => ?_) (fun h18 => ?_)
        · exfalso; omega
        · skip
          refine zz_aload_n 21 X.1 1 dX6_init_21 rfl ?_
          refine zl_get 22 X h6_u6 rfl 0 rfl 0 (by decide) h6_sets rfl (v := .ref qa1) rfl dX6_init_22 ?_
          refine zz_iload_n 25 X.1 0 dX6_init_25 rfl ?_
          refine zl_new 26 X hA h6_u0 tyX0 tyX0_ok h6_cl0 h6_in0 h6_ini0 (ci := 0) rfl (fs := [.null]) (by decide +kernel) ⟨Nat.le_of_ble_eq_true rfl, Nat.le_of_ble_eq_true rfl⟩ dX6_init_26 ?_
          intro qn8
          refine zz_world (P' := (LPw (zz_A (fun q => q = h0) s.heap.size) D [(h0, .inr (6, [.ref qa1, .null, .null, .null, .int 0, .int 0, .int 0])), (qa1, .inl (C 4, 8, .inr (.inr (.inr (.inr (rf [qn2, qn4, qn6])))))), (qn2, .inr (0, [.ref ui3])), (ui3, .inl (C 2, 16, .inr (.inl (WH hZ 0)))), (qn4, .inr (0, [.ref ui5])), (ui5, .inl (C 2, 16, .inr (.inl (WH hZ 1)))), (qn6, .inr (0, [.ref ui7])), (ui7, .inl (C 2, 16, .inr (.inl (WH hZ 2)))), (qn8, .inr (0, [.null]))])) (fun _ h => h) ?_
          refine zz_dup 29 X.1 dX6_init_29 rfl ?_
          refine zz_world (P' := LPw (zz_A (fun q => q = h0) s.heap.size) D ([(h0, .inr (6, [.ref qa1, .null, .null, .null, .int 0, .int 0, .int 0])), (qa1, .inl (C 4, 8, .inr (.inr (.inr (.inr (rf [qn2, qn4, qn6])))))), (qn2, .inr (0, [.ref ui3])), (ui3, .inl (C 2, 16, .inr (.inl (WH hZ 0)))), (qn4, .inr (0, [.ref ui5])), (ui5, .inl (C 2, 16, .inr (.inl (WH hZ 1)))), (qn6, .inr (0, [.ref ui7])), (ui7, .inl (C 2, 16, .inr (.inl (WH hZ 2))))] ++ [(qn8, .inr (0, [.null]))])) (fun _ h => h) ?_
          refine zl_callIN 30 X hml hA (kt_X0_init l D C qn8) ⟨va_cnB 0 X.2.1 gX6_init_X0_init_n15 rfl rfl rfl hN.2.2.1 (X.2.1 (.initialized RX0) h6_ini0) h6_d0 ⟨Nat.le_of_ble_eq_true rfl, Nat.le_of_ble_eq_true rfl⟩, rfl, X.2.1 (.instanceMethod yX0_init) h6_inst0⟩ (Nat.le_of_ble_eq_true rfl) ⟨Nat.le_of_ble_eq_true rfl, Nat.le_of_ble_eq_true rfl⟩ dX6_init_30 ?_
          intro ui9
          refine zz_world (P' := (LPw (zz_A (fun q => q = h0) s.heap.size) D [(h0, .inr (6, [.ref qa1, .null, .null, .null, .int 0, .int 0, .int 0])), (qa1, .inl (C 4, 8, .inr (.inr (.inr (.inr (rf [qn2, qn4, qn6])))))), (qn2, .inr (0, [.ref ui3])), (ui3, .inl (C 2, 16, .inr (.inl (WH hZ 0)))), (qn4, .inr (0, [.ref ui5])), (ui5, .inl (C 2, 16, .inr (.inl (WH hZ 1)))), (qn6, .inr (0, [.ref ui7])), (ui7, .inl (C 2, 16, .inr (.inl (WH hZ 2)))), (qn8, .inr (0, [.ref ui9])), (ui9, .inl (C 2, 16, .inr (.inl (WH hZ 3))))])) (fun _ h => by rw [show WH hZ 3 = fun _ => 0 from WH_0 3]; exact h) ?_
          refine zl_aast 33 X 1 4 8 0 (r := (RX0, TX0, 1)) rfl rfl rfl rfl (Nat.le_of_ble_eq_true rfl) (by decide) dX6_init_33 ?_
          refine zz_world (P' := (LPw (zz_A (fun q => q = h0) s.heap.size) D [(h0, .inr (6, [.ref qa1, .null, .null, .null, .int 0, .int 0, .int 0])), (qa1, .inl (C 4, 8, .inr (.inr (.inr (.inr (rf [qn2, qn4, qn6, qn8])))))), (qn2, .inr (0, [.ref ui3])), (ui3, .inl (C 2, 16, .inr (.inl (WH hZ 0)))), (qn4, .inr (0, [.ref ui5])), (ui5, .inl (C 2, 16, .inr (.inl (WH hZ 1)))), (qn6, .inr (0, [.ref ui7])), (ui7, .inl (C 2, 16, .inr (.inl (WH hZ 2)))), (qn8, .inr (0, [.ref ui9])), (ui9, .inl (C 2, 16, .inr (.inl (WH hZ 3))))])) (fun _ h => by rw [show rf [qn2, qn4, qn6, qn8] = va_up (rf [qn2, qn4, qn6]) 3 (some qn8) from rf_up (z := [qn2, qn4, qn6]) rfl]; exact h) ?_
          refine zz_iinc 34 X.1 0 (v := (nI 4)) (lv' := [(1, .int (nI 4)), (0, .ref h0)]) dX6_init_34 rfl (nI_add _ _) (by decide) rfl ?_
          refine zz_goto 37 15 X.1 dX6_init_37 (by decide) ?_
          refine zz_iload_n 15 X.1 0 dX6_init_15 rfl ?_
          refine zz_bipush 16 X.1 (v := nI 8) dX6_init_16 rfl ?_
          refine zz_icmp_ge 18 40 X.1 (nI_toInt (by omega)) (nI_toInt (by omega)) dX6_init_18 (by decide) (fun h18 => ?_) (fun h18 => ?_)
          · exfalso; omega
          · skip
            refine zz_aload_n 21 X.1 1 dX6_init_21 rfl ?_
            refine zl_get 22 X h6_u6 rfl 0 rfl 0 (by decide) h6_sets rfl (v := .ref qa1) rfl dX6_init_22 ?_
            refine zz_iload_n 25 X.1 0 dX6_init_25 rfl ?_
            refine zl_new 26 X hA h6_u0 tyX0 tyX0_ok h6_cl0 h6_in0 h6_ini0 (ci := 0) rfl (fs := [.null]) (by decide +kernel) ⟨Nat.le_of_ble_eq_true rfl, Nat.le_of_ble_eq_true rfl⟩ dX6_init_26 ?_
            intro qn10
            refine zz_world (P' := (LPw (zz_A (fun q => q = h0) s.heap.size) D [(h0, .inr (6, [.ref qa1, .null, .null, .null, .int 0, .int 0, .int 0])), (qa1, .inl (C 4, 8, .inr (.inr (.inr (.inr (rf [qn2, qn4, qn6, qn8])))))), (qn2, .inr (0, [.ref ui3])), (ui3, .inl (C 2, 16, .inr (.inl (WH hZ 0)))), (qn4, .inr (0, [.ref ui5])), (ui5, .inl (C 2, 16, .inr (.inl (WH hZ 1)))), (qn6, .inr (0, [.ref ui7])), (ui7, .inl (C 2, 16, .inr (.inl (WH hZ 2)))), (qn8, .inr (0, [.ref ui9])), (ui9, .inl (C 2, 16, .inr (.inl (WH hZ 3)))), (qn10, .inr (0, [.null]))])) (fun _ h => h) ?_
            refine zz_dup 29 X.1 dX6_init_29 rfl ?_
            refine zz_world (P' := LPw (zz_A (fun q => q = h0) s.heap.size) D ([(h0, .inr (6, [.ref qa1, .null, .null, .null, .int 0, .int 0, .int 0])), (qa1, .inl (C 4, 8, .inr (.inr (.inr (.inr (rf [qn2, qn4, qn6, qn8])))))), (qn2, .inr (0, [.ref ui3])), (ui3, .inl (C 2, 16, .inr (.inl (WH hZ 0)))), (qn4, .inr (0, [.ref ui5])), (ui5, .inl (C 2, 16, .inr (.inl (WH hZ 1)))), (qn6, .inr (0, [.ref ui7])), (ui7, .inl (C 2, 16, .inr (.inl (WH hZ 2)))), (qn8, .inr (0, [.ref ui9])), (ui9, .inl (C 2, 16, .inr (.inl (WH hZ 3))))] ++ [(qn10, .inr (0, [.null]))])) (fun _ h => h) ?_
            refine zl_callIN 30 X hml hA (kt_X0_init l D C qn10) ⟨va_cnB 0 X.2.1 gX6_init_X0_init_n15 rfl rfl rfl hN.2.2.1 (X.2.1 (.initialized RX0) h6_ini0) h6_d0 ⟨Nat.le_of_ble_eq_true rfl, Nat.le_of_ble_eq_true rfl⟩, rfl, X.2.1 (.instanceMethod yX0_init) h6_inst0⟩ (Nat.le_of_ble_eq_true rfl) ⟨Nat.le_of_ble_eq_true rfl, Nat.le_of_ble_eq_true rfl⟩ dX6_init_30 ?_
            intro ui11
            refine zz_world (P' := (LPw (zz_A (fun q => q = h0) s.heap.size) D [(h0, .inr (6, [.ref qa1, .null, .null, .null, .int 0, .int 0, .int 0])), (qa1, .inl (C 4, 8, .inr (.inr (.inr (.inr (rf [qn2, qn4, qn6, qn8])))))), (qn2, .inr (0, [.ref ui3])), (ui3, .inl (C 2, 16, .inr (.inl (WH hZ 0)))), (qn4, .inr (0, [.ref ui5])), (ui5, .inl (C 2, 16, .inr (.inl (WH hZ 1)))), (qn6, .inr (0, [.ref ui7])), (ui7, .inl (C 2, 16, .inr (.inl (WH hZ 2)))), (qn8, .inr (0, [.ref ui9])), (ui9, .inl (C 2, 16, .inr (.inl (WH hZ 3)))), (qn10, .inr (0, [.ref ui11])), (ui11, .inl (C 2, 16, .inr (.inl (WH hZ 4))))])) (fun _ h => by rw [show WH hZ 4 = fun _ => 0 from WH_0 4]; exact h) ?_
            refine zl_aast 33 X 1 4 10 0 (r := (RX0, TX0, 1)) rfl rfl rfl rfl (Nat.le_of_ble_eq_true rfl) (by decide) dX6_init_33 ?_
            refine zz_world (P' := (LPw (zz_A (fun q => q = h0) s.heap.size) D [(h0, .inr (6, [.ref qa1, .null, .null, .null, .int 0, .int 0, .int 0])), (qa1, .inl (C 4, 8, .inr (.inr (.inr (.inr (rf [qn2, qn4, qn6, qn8, qn10])))))), (qn2, .inr (0, [.ref ui3])), (ui3, .inl (C 2, 16, .inr (.inl (WH hZ 0)))), (qn4, .inr (0, [.ref ui5])), (ui5, .inl (C 2, 16, .inr (.inl (WH hZ 1)))), (qn6, .inr (0, [.ref ui7])), (ui7, .inl (C 2, 16, .inr (.inl (WH hZ 2)))), (qn8, .inr (0, [.ref ui9])), (ui9, .inl (C 2, 16, .inr (.inl (WH hZ 3)))), (qn10, .inr (0, [.ref ui11])), (ui11, .inl (C 2, 16, .inr (.inl (WH hZ 4))))])) (fun _ h => by rw [show rf [qn2, qn4, qn6, qn8, qn10] = va_up (rf [qn2, qn4, qn6, qn8]) 4 (some qn10) from rf_up (z := [qn2, qn4, qn6, qn8]) rfl]; exact h) ?_
            refine zz_iinc 34 X.1 0 (v := (nI 5)) (lv' := [(1, .int (nI 5)), (0, .ref h0)]) dX6_init_34 rfl (nI_add _ _) (by decide) rfl ?_
            refine zz_goto 37 15 X.1 dX6_init_37 (by decide) ?_
            refine zz_iload_n 15 X.1 0 dX6_init_15 rfl ?_
            refine zz_bipush 16 X.1 (v := nI 8) dX6_init_16 rfl ?_
            refine zz_icmp_ge 18 40 X.1 (nI_toInt (by omega)) (nI_toInt (by omega)) dX6_init_18 (by decide) (fun h18 => ?_) (fun h18 => ?_)
            · exfalso; omega
            · skip
              refine zz_aload_n 21 X.1 1 dX6_init_21 rfl ?_
              refine zl_get 22 X h6_u6 rfl 0 rfl 0 (by decide) h6_sets rfl (v := .ref qa1) rfl dX6_init_22 ?_
              refine zz_iload_n 25 X.1 0 dX6_init_25 rfl ?_
              refine zl_new 26 X hA h6_u0 tyX0 tyX0_ok h6_cl0 h6_in0 h6_ini0 (ci := 0) rfl (fs := [.null]) (by decide +kernel) ⟨Nat.le_of_ble_eq_true rfl, Nat.le_of_ble_eq_true rfl⟩ dX6_init_26 ?_
              intro qn12
              refine zz_world (P' := (LPw (zz_A (fun q => q = h0) s.heap.size) D [(h0, .inr (6, [.ref qa1, .null, .null, .null, .int 0, .int 0, .int 0])), (qa1, .inl (C 4, 8, .inr (.inr (.inr (.inr (rf [qn2, qn4, qn6, qn8, qn10])))))), (qn2, .inr (0, [.ref ui3])), (ui3, .inl (C 2, 16, .inr (.inl (WH hZ 0)))), (qn4, .inr (0, [.ref ui5])), (ui5, .inl (C 2, 16, .inr (.inl (WH hZ 1)))), (qn6, .inr (0, [.ref ui7])), (ui7, .inl (C 2, 16, .inr (.inl (WH hZ 2)))), (qn8, .inr (0, [.ref ui9])), (ui9, .inl (C 2, 16, .inr (.inl (WH hZ 3)))), (qn10, .inr (0, [.ref ui11])), (ui11, .inl (C 2, 16, .inr (.inl (WH hZ 4)))), (qn12, .inr (0, [.null]))])) (fun _ h => h) ?_
              refine zz_dup 29 X.1 dX6_init_29 rfl ?_
              refine zz_world (P' := LPw (zz_A (fun q => q = h0) s.heap.size) D ([(h0, .inr (6, [.ref qa1, .null, .null, .null, .int 0, .int 0, .int 0])), (qa1, .inl (C 4, 8, .inr (.inr (.inr (.inr (rf [qn2, qn4, qn6, qn8, qn10])))))), (qn2, .inr (0, [.ref ui3])), (ui3, .inl (C 2, 16, .inr (.inl (WH hZ 0)))), (qn4, .inr (0, [.ref ui5])), (ui5, .inl (C 2, 16, .inr (.inl (WH hZ 1)))), (qn6, .inr (0, [.ref ui7])), (ui7, .inl (C 2, 16, .inr (.inl (WH hZ 2)))), (qn8, .inr (0, [.ref ui9])), (ui9, .inl (C 2, 16, .inr (.inl (WH hZ 3)))), (qn10, .inr (0, [.ref ui11])), (ui11, .inl (C 2, 16, .inr (.inl (WH hZ 4))))] ++ [(qn12, .inr (0, [.null]))])) (fun _ h => h) ?_
              refine zl_callIN 30 X hml hA (kt_X0_init l D C qn12) ⟨va_cnB 0 X.2.1 gX6_init_X0_init_n15 rfl rfl rfl hN.2.2.1 (X.2.1 (.initialized RX0) h6_ini0) h6_d0 ⟨Nat.le_of_ble_eq_true rfl, Nat.le_of_ble_eq_true rfl⟩, rfl, X.2.1 (.instanceMethod yX0_init) h6_inst0⟩ (Nat.le_of_ble_eq_true rfl) ⟨Nat.le_of_ble_eq_true rfl, Nat.le_of_ble_eq_true rfl⟩ dX6_init_30 ?_
              intro ui13
              refine zz_world (P' := (LPw (zz_A (fun q => q = h0) s.heap.size) D [(h0, .inr (6, [.ref qa1, .null, .null, .null, .int 0, .int 0, .int 0])), (qa1, .inl (C 4, 8, .inr (.inr (.inr (.inr (rf [qn2, qn4, qn6, qn8, qn10])))))), (qn2, .inr (0, [.ref ui3])), (ui3, .inl (C 2, 16, .inr (.inl (WH hZ 0)))), (qn4, .inr (0, [.ref ui5])), (ui5, .inl (C 2, 16, .inr (.inl (WH hZ 1)))), (qn6, .inr (0, [.ref ui7])), (ui7, .inl (C 2, 16, .inr (.inl (WH hZ 2)))), (qn8, .inr (0, [.ref ui9])), (ui9, .inl (C 2, 16, .inr (.inl (WH hZ 3)))), (qn10, .inr (0, [.ref ui11])), (ui11, .inl (C 2, 16, .inr (.inl (WH hZ 4)))), (qn12, .inr (0, [.ref ui13])), (ui13, .inl (C 2, 16, .inr (.inl (WH hZ 5))))])) (fun _ h => by rw [show WH hZ 5 = fun _ => 0 from WH_0 5]; exact h) ?_
              refine zl_aast 33 X 1 4 12 0 (r := (RX0, TX0, 1)) rfl rfl rfl rfl (Nat.le_of_ble_eq_true rfl) (by decide) dX6_init_33 ?_
              refine zz_world (P' := (LPw (zz_A (fun q => q = h0) s.heap.size) D [(h0, .inr (6, [.ref qa1, .null, .null, .null, .int 0, .int 0, .int 0])), (qa1, .inl (C 4, 8, .inr (.inr (.inr (.inr (rf [qn2, qn4, qn6, qn8, qn10, qn12])))))), (qn2, .inr (0, [.ref ui3])), (ui3, .inl (C 2, 16, .inr (.inl (WH hZ 0)))), (qn4, .inr (0, [.ref ui5])), (ui5, .inl (C 2, 16, .inr (.inl (WH hZ 1)))), (qn6, .inr (0, [.ref ui7])), (ui7, .inl (C 2, 16, .inr (.inl (WH hZ 2)))), (qn8, .inr (0, [.ref ui9])), (ui9, .inl (C 2, 16, .inr (.inl (WH hZ 3)))), (qn10, .inr (0, [.ref ui11])), (ui11, .inl (C 2, 16, .inr (.inl (WH hZ 4)))), (qn12, .inr (0, [.ref ui13])), (ui13, .inl (C 2, 16, .inr (.inl (WH hZ 5))))])) (fun _ h => by rw [show rf [qn2, qn4, qn6, qn8, qn10, qn12] = va_up (rf [qn2, qn4, qn6, qn8, qn10]) 5 (some qn12) from rf_up (z := [qn2, qn4, qn6, qn8, qn10]) rfl]; exact h) ?_
              refine zz_iinc 34 X.1 0 (v := (nI 6)) (lv' := [(1, .int (nI 6)), (0, .ref h0)]) dX6_init_34 rfl (nI_add _ _) (by decide) rfl ?_
              refine zz_goto 37 15 X.1 dX6_init_37 (by decide) ?_
              refine zz_iload_n 15 X.1 0 dX6_init_15 rfl ?_
              refine zz_bipush 16 X.1 (v := nI 8) dX6_init_16 rfl ?_
              refine zz_icmp_ge 18 40 X.1 (nI_toInt (by omega)) (nI_toInt (by omega)) dX6_init_18 (by decide) (fun h18 => ?_) (fun h18 => ?_)
              · exfalso; omega
              · skip
                refine zz_aload_n 21 X.1 1 dX6_init_21 rfl ?_
                refine zl_get 22 X h6_u6 rfl 0 rfl 0 (by decide) h6_sets rfl (v := .ref qa1) rfl dX6_init_22 ?_
                refine zz_iload_n 25 X.1 0 dX6_init_25 rfl ?_
                refine zl_new 26 X hA h6_u0 tyX0 tyX0_ok h6_cl0 h6_in0 h6_ini0 (ci := 0) rfl (fs := [.null]) (by decide +kernel) ⟨Nat.le_of_ble_eq_true rfl, Nat.le_of_ble_eq_true rfl⟩ dX6_init_26 ?_
                intro qn14
                refine zz_world (P' := (LPw (zz_A (fun q => q = h0) s.heap.size) D [(h0, .inr (6, [.ref qa1, .null, .null, .null, .int 0, .int 0, .int 0])), (qa1, .inl (C 4, 8, .inr (.inr (.inr (.inr (rf [qn2, qn4, qn6, qn8, qn10, qn12])))))), (qn2, .inr (0, [.ref ui3])), (ui3, .inl (C 2, 16, .inr (.inl (WH hZ 0)))), (qn4, .inr (0, [.ref ui5])), (ui5, .inl (C 2, 16, .inr (.inl (WH hZ 1)))), (qn6, .inr (0, [.ref ui7])), (ui7, .inl (C 2, 16, .inr (.inl (WH hZ 2)))), (qn8, .inr (0, [.ref ui9])), (ui9, .inl (C 2, 16, .inr (.inl (WH hZ 3)))), (qn10, .inr (0, [.ref ui11])), (ui11, .inl (C 2, 16, .inr (.inl (WH hZ 4)))), (qn12, .inr (0, [.ref ui13])), (ui13, .inl (C 2, 16, .inr (.inl (WH hZ 5)))), (qn14, .inr (0, [.null]))])) (fun _ h => h) ?_
                refine zz_dup 29 X.1 dX6_init_29 rfl ?_
                refine zz_world (P' := LPw (zz_A (fun q => q = h0) s.heap.size) D ([(h0, .inr (6, [.ref qa1, .null, .null, .null, .int 0, .int 0, .int 0])), (qa1, .inl (C 4, 8, .inr (.inr (.inr (.inr (rf [qn2, qn4, qn6, qn8, qn10, qn12])))))), (qn2, .inr (0, [.ref ui3])), (ui3, .inl (C 2, 16, .inr (.inl (WH hZ 0)))), (qn4, .inr (0, [.ref ui5])), (ui5, .inl (C 2, 16, .inr (.inl (WH hZ 1)))), (qn6, .inr (0, [.ref ui7])), (ui7, .inl (C 2, 16, .inr (.inl (WH hZ 2)))), (qn8, .inr (0, [.ref ui9])), (ui9, .inl (C 2, 16, .inr (.inl (WH hZ 3)))), (qn10, .inr (0, [.ref ui11])), (ui11, .inl (C 2, 16, .inr (.inl (WH hZ 4)))), (qn12, .inr (0, [.ref ui13])), (ui13, .inl (C 2, 16, .inr (.inl (WH hZ 5))))] ++ [(qn14, .inr (0, [.null]))])) (fun _ h => h) ?_
                refine zl_callIN 30 X hml hA (kt_X0_init l D C qn14) ⟨va_cnB 0 X.2.1 gX6_init_X0_init_n15 rfl rfl rfl hN.2.2.1 (X.2.1 (.initialized RX0) h6_ini0) h6_d0 ⟨Nat.le_of_ble_eq_true rfl, Nat.le_of_ble_eq_true rfl⟩, rfl, X.2.1 (.instanceMethod yX0_init) h6_inst0⟩ (Nat.le_of_ble_eq_true rfl) ⟨Nat.le_of_ble_eq_true rfl, Nat.le_of_ble_eq_true rfl⟩ dX6_init_30 ?_
                intro ui15
                refine zz_world (P' := (LPw (zz_A (fun q => q = h0) s.heap.size) D [(h0, .inr (6, [.ref qa1, .null, .null, .null, .int 0, .int 0, .int 0])), (qa1, .inl (C 4, 8, .inr (.inr (.inr (.inr (rf [qn2, qn4, qn6, qn8, qn10, qn12])))))), (qn2, .inr (0, [.ref ui3])), (ui3, .inl (C 2, 16, .inr (.inl (WH hZ 0)))), (qn4, .inr (0, [.ref ui5])), (ui5, .inl (C 2, 16, .inr (.inl (WH hZ 1)))), (qn6, .inr (0, [.ref ui7])), (ui7, .inl (C 2, 16, .inr (.inl (WH hZ 2)))), (qn8, .inr (0, [.ref ui9])), (ui9, .inl (C 2, 16, .inr (.inl (WH hZ 3)))), (qn10, .inr (0, [.ref ui11])), (ui11, .inl (C 2, 16, .inr (.inl (WH hZ 4)))), (qn12, .inr (0, [.ref ui13])), (ui13, .inl (C 2, 16, .inr (.inl (WH hZ 5)))), (qn14, .inr (0, [.ref ui15])), (ui15, .inl (C 2, 16, .inr (.inl (WH hZ 6))))])) (fun _ h => by rw [show WH hZ 6 = fun _ => 0 from WH_0 6]; exact h) ?_
                refine zl_aast 33 X 1 4 14 0 (r := (RX0, TX0, 1)) rfl rfl rfl rfl (Nat.le_of_ble_eq_true rfl) (by decide) dX6_init_33 ?_
                refine zz_world (P' := (LPw (zz_A (fun q => q = h0) s.heap.size) D [(h0, .inr (6, [.ref qa1, .null, .null, .null, .int 0, .int 0, .int 0])), (qa1, .inl (C 4, 8, .inr (.inr (.inr (.inr (rf [qn2, qn4, qn6, qn8, qn10, qn12, qn14])))))), (qn2, .inr (0, [.ref ui3])), (ui3, .inl (C 2, 16, .inr (.inl (WH hZ 0)))), (qn4, .inr (0, [.ref ui5])), (ui5, .inl (C 2, 16, .inr (.inl (WH hZ 1)))), (qn6, .inr (0, [.ref ui7])), (ui7, .inl (C 2, 16, .inr (.inl (WH hZ 2)))), (qn8, .inr (0, [.ref ui9])), (ui9, .inl (C 2, 16, .inr (.inl (WH hZ 3)))), (qn10, .inr (0, [.ref ui11])), (ui11, .inl (C 2, 16, .inr (.inl (WH hZ 4)))), (qn12, .inr (0, [.ref ui13])), (ui13, .inl (C 2, 16, .inr (.inl (WH hZ 5)))), (qn14, .inr (0, [.ref ui15])), (ui15, .inl (C 2, 16, .inr (.inl (WH hZ 6))))])) (fun _ h => by rw [show rf [qn2, qn4, qn6, qn8, qn10, qn12, qn14] = va_up (rf [qn2, qn4, qn6, qn8, qn10, qn12]) 6 (some qn14) from rf_up (z := [qn2, qn4, qn6, qn8, qn10, qn12]) rfl]; exact h) ?_
                refine zz_iinc 34 X.1 0 (v := (nI 7)) (lv' := [(1, .int (nI 7)), (0, .ref h0)]) dX6_init_34 rfl (nI_add _ _) (by decide) rfl ?_
                refine zz_goto 37 15 X.1 dX6_init_37 (by decide) ?_
                refine zz_iload_n 15 X.1 0 dX6_init_15 rfl ?_
                refine zz_bipush 16 X.1 (v := nI 8) dX6_init_16 rfl ?_
                refine zz_icmp_ge 18 40 X.1 (nI_toInt (by omega)) (nI_toInt (by omega)) dX6_init_18 (by decide) (fun h18 => ?_) (fun h18 => ?_)
                · exfalso; omega
                · skip
                  refine zz_aload_n 21 X.1 1 dX6_init_21 rfl ?_
                  refine zl_get 22 X h6_u6 rfl 0 rfl 0 (by decide) h6_sets rfl (v := .ref qa1) rfl dX6_init_22 ?_
                  refine zz_iload_n 25 X.1 0 dX6_init_25 rfl ?_
                  refine zl_new 26 X hA h6_u0 tyX0 tyX0_ok h6_cl0 h6_in0 h6_ini0 (ci := 0) rfl (fs := [.null]) (by decide +kernel) ⟨Nat.le_of_ble_eq_true rfl, Nat.le_of_ble_eq_true rfl⟩ dX6_init_26 ?_
                  intro qn16
                  refine zz_world (P' := (LPw (zz_A (fun q => q = h0) s.heap.size) D [(h0, .inr (6, [.ref qa1, .null, .null, .null, .int 0, .int 0, .int 0])), (qa1, .inl (C 4, 8, .inr (.inr (.inr (.inr (rf [qn2, qn4, qn6, qn8, qn10, qn12, qn14])))))), (qn2, .inr (0, [.ref ui3])), (ui3, .inl (C 2, 16, .inr (.inl (WH hZ 0)))), (qn4, .inr (0, [.ref ui5])), (ui5, .inl (C 2, 16, .inr (.inl (WH hZ 1)))), (qn6, .inr (0, [.ref ui7])), (ui7, .inl (C 2, 16, .inr (.inl (WH hZ 2)))), (qn8, .inr (0, [.ref ui9])), (ui9, .inl (C 2, 16, .inr (.inl (WH hZ 3)))), (qn10, .inr (0, [.ref ui11])), (ui11, .inl (C 2, 16, .inr (.inl (WH hZ 4)))), (qn12, .inr (0, [.ref ui13])), (ui13, .inl (C 2, 16, .inr (.inl (WH hZ 5)))), (qn14, .inr (0, [.ref ui15])), (ui15, .inl (C 2, 16, .inr (.inl (WH hZ 6)))), (qn16, .inr (0, [.null]))])) (fun _ h => h) ?_
                  refine zz_dup 29 X.1 dX6_init_29 rfl ?_
                  refine zz_world (P' := LPw (zz_A (fun q => q = h0) s.heap.size) D ([(h0, .inr (6, [.ref qa1, .null, .null, .null, .int 0, .int 0, .int 0])), (qa1, .inl (C 4, 8, .inr (.inr (.inr (.inr (rf [qn2, qn4, qn6, qn8, qn10, qn12, qn14])))))), (qn2, .inr (0, [.ref ui3])), (ui3, .inl (C 2, 16, .inr (.inl (WH hZ 0)))), (qn4, .inr (0, [.ref ui5])), (ui5, .inl (C 2, 16, .inr (.inl (WH hZ 1)))), (qn6, .inr (0, [.ref ui7])), (ui7, .inl (C 2, 16, .inr (.inl (WH hZ 2)))), (qn8, .inr (0, [.ref ui9])), (ui9, .inl (C 2, 16, .inr (.inl (WH hZ 3)))), (qn10, .inr (0, [.ref ui11])), (ui11, .inl (C 2, 16, .inr (.inl (WH hZ 4)))), (qn12, .inr (0, [.ref ui13])), (ui13, .inl (C 2, 16, .inr (.inl (WH hZ 5)))), (qn14, .inr (0, [.ref ui15])), (ui15, .inl (C 2, 16, .inr (.inl (WH hZ 6))))] ++ [(qn16, .inr (0, [.null]))])) (fun _ h => h) ?_
                  refine zl_callIN 30 X hml hA (kt_X0_init l D C qn16) ⟨va_cnB 0 X.2.1 gX6_init_X0_init_n15 rfl rfl rfl hN.2.2.1 (X.2.1 (.initialized RX0) h6_ini0) h6_d0 ⟨Nat.le_of_ble_eq_true rfl, Nat.le_of_ble_eq_true rfl⟩, rfl, X.2.1 (.instanceMethod yX0_init) h6_inst0⟩ (Nat.le_of_ble_eq_true rfl) ⟨Nat.le_of_ble_eq_true rfl, Nat.le_of_ble_eq_true rfl⟩ dX6_init_30 ?_
                  intro ui17
                  refine zz_world (P' := (LPw (zz_A (fun q => q = h0) s.heap.size) D [(h0, .inr (6, [.ref qa1, .null, .null, .null, .int 0, .int 0, .int 0])), (qa1, .inl (C 4, 8, .inr (.inr (.inr (.inr (rf [qn2, qn4, qn6, qn8, qn10, qn12, qn14])))))), (qn2, .inr (0, [.ref ui3])), (ui3, .inl (C 2, 16, .inr (.inl (WH hZ 0)))), (qn4, .inr (0, [.ref ui5])), (ui5, .inl (C 2, 16, .inr (.inl (WH hZ 1)))), (qn6, .inr (0, [.ref ui7])), (ui7, .inl (C 2, 16, .inr (.inl (WH hZ 2)))), (qn8, .inr (0, [.ref ui9])), (ui9, .inl (C 2, 16, .inr (.inl (WH hZ 3)))), (qn10, .inr (0, [.ref ui11])), (ui11, .inl (C 2, 16, .inr (.inl (WH hZ 4)))), (qn12, .inr (0, [.ref ui13])), (ui13, .inl (C 2, 16, .inr (.inl (WH hZ 5)))), (qn14, .inr (0, [.ref ui15])), (ui15, .inl (C 2, 16, .inr (.inl (WH hZ 6)))), (qn16, .inr (0, [.ref ui17])), (ui17, .inl (C 2, 16, .inr (.inl (WH hZ 7))))])) (fun _ h => by rw [show WH hZ 7 = fun _ => 0 from WH_0 7]; exact h) ?_
                  refine zl_aast 33 X 1 4 16 0 (r := (RX0, TX0, 1)) rfl rfl rfl rfl (Nat.le_of_ble_eq_true rfl) (by decide) dX6_init_33 ?_
                  refine zz_world (P' := (LPw (zz_A (fun q => q = h0) s.heap.size) D [(h0, .inr (6, [.ref qa1, .null, .null, .null, .int 0, .int 0, .int 0])), (qa1, .inl (C 4, 8, .inr (.inr (.inr (.inr (rf [qn2, qn4, qn6, qn8, qn10, qn12, qn14, qn16])))))), (qn2, .inr (0, [.ref ui3])), (ui3, .inl (C 2, 16, .inr (.inl (WH hZ 0)))), (qn4, .inr (0, [.ref ui5])), (ui5, .inl (C 2, 16, .inr (.inl (WH hZ 1)))), (qn6, .inr (0, [.ref ui7])), (ui7, .inl (C 2, 16, .inr (.inl (WH hZ 2)))), (qn8, .inr (0, [.ref ui9])), (ui9, .inl (C 2, 16, .inr (.inl (WH hZ 3)))), (qn10, .inr (0, [.ref ui11])), (ui11, .inl (C 2, 16, .inr (.inl (WH hZ 4)))), (qn12, .inr (0, [.ref ui13])), (ui13, .inl (C 2, 16, .inr (.inl (WH hZ 5)))), (qn14, .inr (0, [.ref ui15])), (ui15, .inl (C 2, 16, .inr (.inl (WH hZ 6)))), (qn16, .inr (0, [.ref ui17])), (ui17, .inl (C 2, 16, .inr (.inl (WH hZ 7))))])) (fun _ h => by rw [show rf [qn2, qn4, qn6, qn8, qn10, qn12, qn14, qn16] = va_up (rf [qn2, qn4, qn6, qn8, qn10, qn12, qn14]) 7 (some qn16) from rf_up (z := [qn2, qn4, qn6, qn8, qn10, qn12, qn14]) rfl]; exact h) ?_
                  refine zz_iinc 34 X.1 0 (v := (nI 8)) (lv' := [(1, .int (nI 8)), (0, .ref h0)]) dX6_init_34 rfl (nI_add _ _) (by decide) rfl ?_
                  refine zz_goto 37 15 X.1 dX6_init_37 (by decide) ?_
                  refine zz_iload_n 15 X.1 0 dX6_init_15 rfl ?_
                  refine zz_bipush 16 X.1 (v := nI 8) dX6_init_16 rfl ?_
                  refine zz_icmp_ge 18 40 X.1 (nI_toInt (by omega)) (nI_toInt (by omega)) dX6_init_18 (by decide) (fun h18 => ?_) (fun h18 => ?_)
                  · skip
                    refine zz_aload_n 40 X.1 1 dX6_init_40 rfl ?_
                    refine zl_get 41 X h6_u6 rfl 0 rfl 0 (by decide) h6_sets rfl (v := .ref qa1) rfl dX6_init_41 ?_
                    refine zz_iconst 44 X.1 (v := nI 0) dX6_init_44 rfl ?_
                    refine zl_aald 45 X 1 4 rfl rfl (Nat.le_of_ble_eq_true rfl) (by decide) (v := .ref qn2) rfl dX6_init_45 ?_
                    refine zz_iconst 46 X.1 (v := nI 0) dX6_init_46 rfl ?_
                    refine zz_bipush 47 X.1 (v := nI 10) dX6_init_47 rfl ?_
                    refine zl_callQ2 49 X hml hA 2 3 (q := qn2) (u := ui3) (s0 := 0) (hs := hZ) (hs1 := hA1) rfl rfl (As := [.int (nI 0), .int (nI 10)]) (fun _ => 0) (fun _ _ => 0) (fun _ _ => 0) (fun K h => kq_X0_include l 0 D C K h _ _ _ _ 0 10 (by decide) (by decide)) gX6_init_X0_include rfl ⟨rfl, rfl⟩ yd_X0_include ⟨Nat.le_of_ble_eq_true rfl, Nat.le_of_ble_eq_true rfl⟩ rfl rfl (Nat.le_of_ble_eq_true rfl) ⟨Nat.le_of_ble_eq_true rfl, Nat.le_of_ble_eq_true rfl⟩ dX6_init_49 ?_
                    refine zz_world (P' := (LPw (zz_A (fun q => q = h0) s.heap.size) D [(h0, .inr (6, [.ref qa1, .null, .null, .null, .int 0, .int 0, .int 0])), (qa1, .inl (C 4, 8, .inr (.inr (.inr (.inr (rf [qn2, qn4, qn6, qn8, qn10, qn12, qn14, qn16])))))), (qn2, .inr (0, [.ref ui3])), (ui3, .inl (C 2, 16, .inr (.inl (WH hA1 0)))), (qn4, .inr (0, [.ref ui5])), (ui5, .inl (C 2, 16, .inr (.inl (WH hZ 1)))), (qn6, .inr (0, [.ref ui7])), (ui7, .inl (C 2, 16, .inr (.inl (WH hZ 2)))), (qn8, .inr (0, [.ref ui9])), (ui9, .inl (C 2, 16, .inr (.inl (WH hZ 3)))), (qn10, .inr (0, [.ref ui11])), (ui11, .inl (C 2, 16, .inr (.inl (WH hZ 4)))), (qn12, .inr (0, [.ref ui13])), (ui13, .inl (C 2, 16, .inr (.inl (WH hZ 5)))), (qn14, .inr (0, [.ref ui15])), (ui15, .inl (C 2, 16, .inr (.inl (WH hZ 6)))), (qn16, .inr (0, [.ref ui17])), (ui17, .inl (C 2, 16, .inr (.inl (WH hZ 7))))])) (fun _ h => h) ?_
                    refine zz_iconst 52 X.1 (v := nI 0) dX6_init_52 rfl ?_
                    refine zz_istore_n 53 X.1 (lv' := [(1, .int (nI 0)), (0, .ref h0)]) dX6_init_53 (by decide) rfl ?_
                    refine zz_iload_n 54 X.1 0 dX6_init_54 rfl ?_
                    refine zz_bipush 55 X.1 (v := nI 18) dX6_init_55 rfl ?_
                    refine zz_icmp_gt 57 76 X.1 (nI_toInt (by omega)) (nI_toInt (by omega)) dX6_init_57 (by decide) (fun h57 => ?_) (fun h57 => ?_)
                    · exfalso; omega
                    · skip
                      refine zz_aload_n 60 X.1 1 dX6_init_60 rfl ?_
                      refine zl_get 61 X h6_u6 rfl 0 rfl 0 (by decide) h6_sets rfl (v := .ref qa1) rfl dX6_init_61 ?_
                      refine zz_iconst 64 X.1 (v := nI 1) dX6_init_64 rfl ?_
                      refine zl_aald 65 X 1 4 rfl rfl (Nat.le_of_ble_eq_true rfl) (by decide) (v := .ref qn4) rfl dX6_init_65 ?_
                      refine zz_iload_n 66 X.1 0 dX6_init_66 rfl ?_
                      refine zl_callQ2 67 X hml hA 4 5 (q := qn4) (u := ui5) (s0 := 1) (hs := hZ) (hs1 := (hB 1)) rfl rfl (As := [.int (nI 0)]) (fun _ => 0) (fun _ _ => 0) (fun _ _ => 0) (fun K h => kq_X0_includeOne l 1 D C K h _ _ _ _ 0 (by decide) (by decide)) gX6_init_X0_includeOne rfl ⟨rfl, rfl⟩ yd_X0_includeOne ⟨Nat.le_of_ble_eq_true rfl, Nat.le_of_ble_eq_true rfl⟩ rfl rfl (Nat.le_of_ble_eq_true rfl) ⟨Nat.le_of_ble_eq_true rfl, Nat.le_of_ble_eq_true rfl⟩ dX6_init_67 ?_
                      refine zz_world (P' := (LPw (zz_A (fun q => q = h0) s.heap.size) D [(h0, .inr (6, [.ref qa1, .null, .null, .null, .int 0, .int 0, .int 0])), (qa1, .inl (C 4, 8, .inr (.inr (.inr (.inr (rf [qn2, qn4, qn6, qn8, qn10, qn12, qn14, qn16])))))), (qn2, .inr (0, [.ref ui3])), (ui3, .inl (C 2, 16, .inr (.inl (WH hA1 0)))), (qn4, .inr (0, [.ref ui5])), (ui5, .inl (C 2, 16, .inr (.inl (WH (hB 1) 1)))), (qn6, .inr (0, [.ref ui7])), (ui7, .inl (C 2, 16, .inr (.inl (WH hZ 2)))), (qn8, .inr (0, [.ref ui9])), (ui9, .inl (C 2, 16, .inr (.inl (WH hZ 3)))), (qn10, .inr (0, [.ref ui11])), (ui11, .inl (C 2, 16, .inr (.inl (WH hZ 4)))), (qn12, .inr (0, [.ref ui13])), (ui13, .inl (C 2, 16, .inr (.inl (WH hZ 5)))), (qn14, .inr (0, [.ref ui15])), (ui15, .inl (C 2, 16, .inr (.inl (WH hZ 6)))), (qn16, .inr (0, [.ref ui17])), (ui17, .inl (C 2, 16, .inr (.inl (WH hZ 7))))])) (fun _ h => h) ?_
                      refine zz_iinc 70 X.1 0 (v := (nI 2)) (lv' := [(1, .int (nI 2)), (0, .ref h0)]) dX6_init_70 rfl (nI_add _ _) (by decide) rfl ?_
                      refine zz_goto 73 54 X.1 dX6_init_73 (by decide) ?_
                      refine zz_iload_n 54 X.1 0 dX6_init_54 rfl ?_
                      refine zz_bipush 55 X.1 (v := nI 18) dX6_init_55 rfl ?_
                      refine zz_icmp_gt 57 76 X.1 (nI_toInt (by omega)) (nI_toInt (by omega)) dX6_init_57 (by decide) (fun h57 => ?_) (fun h57 => ?_)
                      · exfalso; omega
                      · skip
                        refine zz_aload_n 60 X.1 1 dX6_init_60 rfl ?_
                        refine zl_get 61 X h6_u6 rfl 0 rfl 0 (by decide) h6_sets rfl (v := .ref qa1) rfl dX6_init_61 ?_
                        refine zz_iconst 64 X.1 (v := nI 1) dX6_init_64 rfl ?_
                        refine zl_aald 65 X 1 4 rfl rfl (Nat.le_of_ble_eq_true rfl) (by decide) (v := .ref qn4) rfl dX6_init_65 ?_
                        refine zz_iload_n 66 X.1 0 dX6_init_66 rfl ?_
                        refine zl_callQ2 67 X hml hA 4 5 (q := qn4) (u := ui5) (s0 := 1) (hs := (hB 1)) (hs1 := (hB 2)) rfl rfl (As := [.int (nI 2)]) (fun _ => 0) (fun _ _ => 0) (fun _ _ => 0) (fun K h => kq_X0_includeOne l 1 D C K h _ _ _ _ 2 (by decide) (by decide)) gX6_init_X0_includeOne rfl ⟨rfl, rfl⟩ yd_X0_includeOne ⟨Nat.le_of_ble_eq_true rfl, Nat.le_of_ble_eq_true rfl⟩ rfl rfl (Nat.le_of_ble_eq_true rfl) ⟨Nat.le_of_ble_eq_true rfl, Nat.le_of_ble_eq_true rfl⟩ dX6_init_67 ?_
                        refine zz_world (P' := (LPw (zz_A (fun q => q = h0) s.heap.size) D [(h0, .inr (6, [.ref qa1, .null, .null, .null, .int 0, .int 0, .int 0])), (qa1, .inl (C 4, 8, .inr (.inr (.inr (.inr (rf [qn2, qn4, qn6, qn8, qn10, qn12, qn14, qn16])))))), (qn2, .inr (0, [.ref ui3])), (ui3, .inl (C 2, 16, .inr (.inl (WH hA1 0)))), (qn4, .inr (0, [.ref ui5])), (ui5, .inl (C 2, 16, .inr (.inl (WH (hB 2) 1)))), (qn6, .inr (0, [.ref ui7])), (ui7, .inl (C 2, 16, .inr (.inl (WH hZ 2)))), (qn8, .inr (0, [.ref ui9])), (ui9, .inl (C 2, 16, .inr (.inl (WH hZ 3)))), (qn10, .inr (0, [.ref ui11])), (ui11, .inl (C 2, 16, .inr (.inl (WH hZ 4)))), (qn12, .inr (0, [.ref ui13])), (ui13, .inl (C 2, 16, .inr (.inl (WH hZ 5)))), (qn14, .inr (0, [.ref ui15])), (ui15, .inl (C 2, 16, .inr (.inl (WH hZ 6)))), (qn16, .inr (0, [.ref ui17])), (ui17, .inl (C 2, 16, .inr (.inl (WH hZ 7))))])) (fun _ h => h) ?_
                        refine zz_iinc 70 X.1 0 (v := (nI 4)) (lv' := [(1, .int (nI 4)), (0, .ref h0)]) dX6_init_70 rfl (nI_add _ _) (by decide) rfl ?_
                        refine zz_goto 73 54 X.1 dX6_init_73 (by decide) ?_
                        refine zz_iload_n 54 X.1 0 dX6_init_54 rfl ?_
                        refine zz_bipush 55 X.1 (v := nI 18) dX6_init_55 rfl ?_
                        refine zz_icmp_gt 57 76 X.1 (nI_toInt (by omega)) (nI_toInt (by omega)) dX6_init_57 (by decide) (fun h57 => ?_) (fun h57 => ?_)
                        · exfalso; omega
                        · skip
                          refine zz_aload_n 60 X.1 1 dX6_init_60 rfl ?_
                          refine zl_get 61 X h6_u6 rfl 0 rfl 0 (by decide) h6_sets rfl (v := .ref qa1) rfl dX6_init_61 ?_
                          refine zz_iconst 64 X.1 (v := nI 1) dX6_init_64 rfl ?_
                          refine zl_aald 65 X 1 4 rfl rfl (Nat.le_of_ble_eq_true rfl) (by decide) (v := .ref qn4) rfl dX6_init_65 ?_
                          refine zz_iload_n 66 X.1 0 dX6_init_66 rfl ?_
                          refine zl_callQ2 67 X hml hA 4 5 (q := qn4) (u := ui5) (s0 := 1) (hs := (hB 2)) (hs1 := (hB 3)) rfl rfl (As := [.int (nI 4)]) (fun _ => 0) (fun _ _ => 0) (fun _ _ => 0) (fun K h => kq_X0_includeOne l 1 D C K h _ _ _ _ 4 (by decide) (by decide)) gX6_init_X0_includeOne rfl ⟨rfl, rfl⟩ yd_X0_includeOne ⟨Nat.le_of_ble_eq_true rfl, Nat.le_of_ble_eq_true rfl⟩ rfl rfl (Nat.le_of_ble_eq_true rfl) ⟨Nat.le_of_ble_eq_true rfl, Nat.le_of_ble_eq_true rfl⟩ dX6_init_67 ?_
                          refine zz_world (P' := (LPw (zz_A (fun q => q = h0) s.heap.size) D [(h0, .inr (6, [.ref qa1, .null, .null, .null, .int 0, .int 0, .int 0])), (qa1, .inl (C 4, 8, .inr (.inr (.inr (.inr (rf [qn2, qn4, qn6, qn8, qn10, qn12, qn14, qn16])))))), (qn2, .inr (0, [.ref ui3])), (ui3, .inl (C 2, 16, .inr (.inl (WH hA1 0)))), (qn4, .inr (0, [.ref ui5])), (ui5, .inl (C 2, 16, .inr (.inl (WH (hB 3) 1)))), (qn6, .inr (0, [.ref ui7])), (ui7, .inl (C 2, 16, .inr (.inl (WH hZ 2)))), (qn8, .inr (0, [.ref ui9])), (ui9, .inl (C 2, 16, .inr (.inl (WH hZ 3)))), (qn10, .inr (0, [.ref ui11])), (ui11, .inl (C 2, 16, .inr (.inl (WH hZ 4)))), (qn12, .inr (0, [.ref ui13])), (ui13, .inl (C 2, 16, .inr (.inl (WH hZ 5)))), (qn14, .inr (0, [.ref ui15])), (ui15, .inl (C 2, 16, .inr (.inl (WH hZ 6)))), (qn16, .inr (0, [.ref ui17])), (ui17, .inl (C 2, 16, .inr (.inl (WH hZ 7))))])) (fun _ h => h) ?_
                          refine zz_iinc 70 X.1 0 (v := (nI 6)) (lv' := [(1, .int (nI 6)), (0, .ref h0)]) dX6_init_70 rfl (nI_add _ _) (by decide) rfl ?_
                          refine zz_goto 73 54 X.1 dX6_init_73 (by decide) ?_
                          refine zz_iload_n 54 X.1 0 dX6_init_54 rfl ?_
                          refine zz_bipush 55 X.1 (v := nI 18) dX6_init_55 rfl ?_
                          refine zz_icmp_gt 57 76 X.1 (nI_toInt (by omega)) (nI_toInt (by omega)) dX6_init_57 (by decide) (fun h57 => ?_) (fun h57 => ?_)
                          · exfalso; omega
                          · skip
                            refine zz_aload_n 60 X.1 1 dX6_init_60 rfl ?_
                            refine zl_get 61 X h6_u6 rfl 0 rfl 0 (by decide) h6_sets rfl (v := .ref qa1) rfl dX6_init_61 ?_
                            refine zz_iconst 64 X.1 (v := nI 1) dX6_init_64 rfl ?_
                            refine zl_aald 65 X 1 4 rfl rfl (Nat.le_of_ble_eq_true rfl) (by decide) (v := .ref qn4) rfl dX6_init_65 ?_
                            refine zz_iload_n 66 X.1 0 dX6_init_66 rfl ?_
                            refine zl_callQ2 67 X hml hA 4 5 (q := qn4) (u := ui5) (s0 := 1) (hs := (hB 3)) (hs1 := (hB 4)) rfl rfl (As := [.int (nI 6)]) (fun _ => 0) (fun _ _ => 0) (fun _ _ => 0) (fun K h => kq_X0_includeOne l 1 D C K h _ _ _ _ 6 (by decide) (by decide)) gX6_init_X0_includeOne rfl ⟨rfl, rfl⟩ yd_X0_includeOne ⟨Nat.le_of_ble_eq_true rfl, Nat.le_of_ble_eq_true rfl⟩ rfl rfl (Nat.le_of_ble_eq_true rfl) ⟨Nat.le_of_ble_eq_true rfl, Nat.le_of_ble_eq_true rfl⟩ dX6_init_67 ?_
                            refine zz_world (P' := (LPw (zz_A (fun q => q = h0) s.heap.size) D [(h0, .inr (6, [.ref qa1, .null, .null, .null, .int 0, .int 0, .int 0])), (qa1, .inl (C 4, 8, .inr (.inr (.inr (.inr (rf [qn2, qn4, qn6, qn8, qn10, qn12, qn14, qn16])))))), (qn2, .inr (0, [.ref ui3])), (ui3, .inl (C 2, 16, .inr (.inl (WH hA1 0)))), (qn4, .inr (0, [.ref ui5])), (ui5, .inl (C 2, 16, .inr (.inl (WH (hB 4) 1)))), (qn6, .inr (0, [.ref ui7])), (ui7, .inl (C 2, 16, .inr (.inl (WH hZ 2)))), (qn8, .inr (0, [.ref ui9])), (ui9, .inl (C 2, 16, .inr (.inl (WH hZ 3)))), (qn10, .inr (0, [.ref ui11])), (ui11, .inl (C 2, 16, .inr (.inl (WH hZ 4)))), (qn12, .inr (0, [.ref ui13])), (ui13, .inl (C 2, 16, .inr (.inl (WH hZ 5)))), (qn14, .inr (0, [.ref ui15])), (ui15, .inl (C 2, 16, .inr (.inl (WH hZ 6)))), (qn16, .inr (0, [.ref ui17])), (ui17, .inl (C 2, 16, .inr (.inl (WH hZ 7))))])) (fun _ h => h) ?_
                            refine zz_iinc 70 X.1 0 (v := (nI 8)) (lv' := [(1, .int (nI 8)), (0, .ref h0)]) dX6_init_70 rfl (nI_add _ _) (by decide) rfl ?_
                            refine zz_goto 73 54 X.1 dX6_init_73 (by decide) ?_
                            refine zz_iload_n 54 X.1 0 dX6_init_54 rfl ?_
                            refine zz_bipush 55 X.1 (v := nI 18) dX6_init_55 rfl ?_
                            refine zz_icmp_gt 57 76 X.1 (nI_toInt (by omega)) (nI_toInt (by omega)) dX6_init_57 (by decide) (fun h57 => ?_) (fun h57 => ?_)
                            · exfalso; omega
                            · skip
                              refine zz_aload_n 60 X.1 1 dX6_init_60 rfl ?_
                              refine zl_get 61 X h6_u6 rfl 0 rfl 0 (by decide) h6_sets rfl (v := .ref qa1) rfl dX6_init_61 ?_
                              refine zz_iconst 64 X.1 (v := nI 1) dX6_init_64 rfl ?_
                              refine zl_aald 65 X 1 4 rfl rfl (Nat.le_of_ble_eq_true rfl) (by decide) (v := .ref qn4) rfl dX6_init_65 ?_
                              refine zz_iload_n 66 X.1 0 dX6_init_66 rfl ?_
                              refine zl_callQ2 67 X hml hA 4 5 (q := qn4) (u := ui5) (s0 := 1) (hs := (hB 4)) (hs1 := (hB 5)) rfl rfl (As := [.int (nI 8)]) (fun _ => 0) (fun _ _ => 0) (fun _ _ => 0) (fun K h => kq_X0_includeOne l 1 D C K h _ _ _ _ 8 (by decide) (by decide)) gX6_init_X0_includeOne rfl ⟨rfl, rfl⟩ yd_X0_includeOne ⟨Nat.le_of_ble_eq_true rfl, Nat.le_of_ble_eq_true rfl⟩ rfl rfl (Nat.le_of_ble_eq_true rfl) ⟨Nat.le_of_ble_eq_true rfl, Nat.le_of_ble_eq_true rfl⟩ dX6_init_67 ?_
                              refine zz_world (P' := (LPw (zz_A (fun q => q = h0) s.heap.size) D [(h0, .inr (6, [.ref qa1, .null, .null, .null, .int 0, .int 0, .int 0])), (qa1, .inl (C 4, 8, .inr (.inr (.inr (.inr (rf [qn2, qn4, qn6, qn8, qn10, qn12, qn14, qn16])))))), (qn2, .inr (0, [.ref ui3])), (ui3, .inl (C 2, 16, .inr (.inl (WH hA1 0)))), (qn4, .inr (0, [.ref ui5])), (ui5, .inl (C 2, 16, .inr (.inl (WH (hB 5) 1)))), (qn6, .inr (0, [.ref ui7])), (ui7, .inl (C 2, 16, .inr (.inl (WH hZ 2)))), (qn8, .inr (0, [.ref ui9])), (ui9, .inl (C 2, 16, .inr (.inl (WH hZ 3)))), (qn10, .inr (0, [.ref ui11])), (ui11, .inl (C 2, 16, .inr (.inl (WH hZ 4)))), (qn12, .inr (0, [.ref ui13])), (ui13, .inl (C 2, 16, .inr (.inl (WH hZ 5)))), (qn14, .inr (0, [.ref ui15])), (ui15, .inl (C 2, 16, .inr (.inl (WH hZ 6)))), (qn16, .inr (0, [.ref ui17])), (ui17, .inl (C 2, 16, .inr (.inl (WH hZ 7))))])) (fun _ h => h) ?_
                              refine zz_iinc 70 X.1 0 (v := (nI 10)) (lv' := [(1, .int (nI 10)), (0, .ref h0)]) dX6_init_70 rfl (nI_add _ _) (by decide) rfl ?_
                              refine zz_goto 73 54 X.1 dX6_init_73 (by decide) ?_
                              refine zz_iload_n 54 X.1 0 dX6_init_54 rfl ?_
                              refine zz_bipush 55 X.1 (v := nI 18) dX6_init_55 rfl ?_
                              refine zz_icmp_gt 57 76 X.1 (nI_toInt (by omega)) (nI_toInt (by omega)) dX6_init_57 (by decide) (fun h57 => ?_) (fun h57 => ?_)
                              · exfalso; omega
                              · skip
                                refine zz_aload_n 60 X.1 1 dX6_init_60 rfl ?_
                                refine zl_get 61 X h6_u6 rfl 0 rfl 0 (by decide) h6_sets rfl (v := .ref qa1) rfl dX6_init_61 ?_
                                refine zz_iconst 64 X.1 (v := nI 1) dX6_init_64 rfl ?_
                                refine zl_aald 65 X 1 4 rfl rfl (Nat.le_of_ble_eq_true rfl) (by decide) (v := .ref qn4) rfl dX6_init_65 ?_
                                refine zz_iload_n 66 X.1 0 dX6_init_66 rfl ?_
                                refine zl_callQ2 67 X hml hA 4 5 (q := qn4) (u := ui5) (s0 := 1) (hs := (hB 5)) (hs1 := (hB 6)) rfl rfl (As := [.int (nI 10)]) (fun _ => 0) (fun _ _ => 0) (fun _ _ => 0) (fun K h => kq_X0_includeOne l 1 D C K h _ _ _ _ 10 (by decide) (by decide)) gX6_init_X0_includeOne rfl ⟨rfl, rfl⟩ yd_X0_includeOne ⟨Nat.le_of_ble_eq_true rfl, Nat.le_of_ble_eq_true rfl⟩ rfl rfl (Nat.le_of_ble_eq_true rfl) ⟨Nat.le_of_ble_eq_true rfl, Nat.le_of_ble_eq_true rfl⟩ dX6_init_67 ?_
                                refine zz_world (P' := (LPw (zz_A (fun q => q = h0) s.heap.size) D [(h0, .inr (6, [.ref qa1, .null, .null, .null, .int 0, .int 0, .int 0])), (qa1, .inl (C 4, 8, .inr (.inr (.inr (.inr (rf [qn2, qn4, qn6, qn8, qn10, qn12, qn14, qn16])))))), (qn2, .inr (0, [.ref ui3])), (ui3, .inl (C 2, 16, .inr (.inl (WH hA1 0)))), (qn4, .inr (0, [.ref ui5])), (ui5, .inl (C 2, 16, .inr (.inl (WH (hB 6) 1)))), (qn6, .inr (0, [.ref ui7])), (ui7, .inl (C 2, 16, .inr (.inl (WH hZ 2)))), (qn8, .inr (0, [.ref ui9])), (ui9, .inl (C 2, 16, .inr (.inl (WH hZ 3)))), (qn10, .inr (0, [.ref ui11])), (ui11, .inl (C 2, 16, .inr (.inl (WH hZ 4)))), (qn12, .inr (0, [.ref ui13])), (ui13, .inl (C 2, 16, .inr (.inl (WH hZ 5)))), (qn14, .inr (0, [.ref ui15])), (ui15, .inl (C 2, 16, .inr (.inl (WH hZ 6)))), (qn16, .inr (0, [.ref ui17])), (ui17, .inl (C 2, 16, .inr (.inl (WH hZ 7))))])) (fun _ h => h) ?_
                                refine zz_iinc 70 X.1 0 (v := (nI 12)) (lv' := [(1, .int (nI 12)), (0, .ref h0)]) dX6_init_70 rfl (nI_add _ _) (by decide) rfl ?_
                                refine zz_goto 73 54 X.1 dX6_init_73 (by decide) ?_
                                refine zz_iload_n 54 X.1 0 dX6_init_54 rfl ?_
                                refine zz_bipush 55 X.1 (v := nI 18) dX6_init_55 rfl ?_
                                refine zz_icmp_gt 57 76 X.1 (nI_toInt (by omega)) (nI_toInt (by omega)) dX6_init_57 (by decide) (fun h57 => ?_) (fun h57 => ?_)
                                · exfalso; omega
                                · skip
                                  refine zz_aload_n 60 X.1 1 dX6_init_60 rfl ?_
                                  refine zl_get 61 X h6_u6 rfl 0 rfl 0 (by decide) h6_sets rfl (v := .ref qa1) rfl dX6_init_61 ?_
                                  refine zz_iconst 64 X.1 (v := nI 1) dX6_init_64 rfl ?_
                                  refine zl_aald 65 X 1 4 rfl rfl (Nat.le_of_ble_eq_true rfl) (by decide) (v := .ref qn4) rfl dX6_init_65 ?_
                                  refine zz_iload_n 66 X.1 0 dX6_init_66 rfl ?_
                                  refine zl_callQ2 67 X hml hA 4 5 (q := qn4) (u := ui5) (s0 := 1) (hs := (hB 6)) (hs1 := (hB 7)) rfl rfl (As := [.int (nI 12)]) (fun _ => 0) (fun _ _ => 0) (fun _ _ => 0) (fun K h => kq_X0_includeOne l 1 D C K h _ _ _ _ 12 (by decide) (by decide)) gX6_init_X0_includeOne rfl ⟨rfl, rfl⟩ yd_X0_includeOne ⟨Nat.le_of_ble_eq_true rfl, Nat.le_of_ble_eq_true rfl⟩ rfl rfl (Nat.le_of_ble_eq_true rfl) ⟨Nat.le_of_ble_eq_true rfl, Nat.le_of_ble_eq_true rfl⟩ dX6_init_67 ?_
                                  refine zz_world (P' := (LPw (zz_A (fun q => q = h0) s.heap.size) D [(h0, .inr (6, [.ref qa1, .null, .null, .null, .int 0, .int 0, .int 0])), (qa1, .inl (C 4, 8, .inr (.inr (.inr (.inr (rf [qn2, qn4, qn6, qn8, qn10, qn12, qn14, qn16])))))), (qn2, .inr (0, [.ref ui3])), (ui3, .inl (C 2, 16, .inr (.inl (WH hA1 0)))), (qn4, .inr (0, [.ref ui5])), (ui5, .inl (C 2, 16, .inr (.inl (WH (hB 7) 1)))), (qn6, .inr (0, [.ref ui7])), (ui7, .inl (C 2, 16, .inr (.inl (WH hZ 2)))), (qn8, .inr (0, [.ref ui9])), (ui9, .inl (C 2, 16, .inr (.inl (WH hZ 3)))), (qn10, .inr (0, [.ref ui11])), (ui11, .inl (C 2, 16, .inr (.inl (WH hZ 4)))), (qn12, .inr (0, [.ref ui13])), (ui13, .inl (C 2, 16, .inr (.inl (WH hZ 5)))), (qn14, .inr (0, [.ref ui15])), (ui15, .inl (C 2, 16, .inr (.inl (WH hZ 6)))), (qn16, .inr (0, [.ref ui17])), (ui17, .inl (C 2, 16, .inr (.inl (WH hZ 7))))])) (fun _ h => h) ?_
                                  refine zz_iinc 70 X.1 0 (v := (nI 14)) (lv' := [(1, .int (nI 14)), (0, .ref h0)]) dX6_init_70 rfl (nI_add _ _) (by decide) rfl ?_
                                  refine zz_goto 73 54 X.1 dX6_init_73 (by decide) ?_
                                  refine zz_iload_n 54 X.1 0 dX6_init_54 rfl ?_
                                  refine zz_bipush 55 X.1 (v := nI 18) dX6_init_55 rfl ?_
                                  refine zz_icmp_gt 57 76 X.1 (nI_toInt (by omega)) (nI_toInt (by omega)) dX6_init_57 (by decide) (fun h57 => ?_) (fun h57 => ?_)
                                  · exfalso; omega
                                  · skip
                                    refine zz_aload_n 60 X.1 1 dX6_init_60 rfl ?_
                                    refine zl_get 61 X h6_u6 rfl 0 rfl 0 (by decide) h6_sets rfl (v := .ref qa1) rfl dX6_init_61 ?_
                                    refine zz_iconst 64 X.1 (v := nI 1) dX6_init_64 rfl ?_
                                    refine zl_aald 65 X 1 4 rfl rfl (Nat.le_of_ble_eq_true rfl) (by decide) (v := .ref qn4) rfl dX6_init_65 ?_
                                    refine zz_iload_n 66 X.1 0 dX6_init_66 rfl ?_
                                    refine zl_callQ2 67 X hml hA 4 5 (q := qn4) (u := ui5) (s0 := 1) (hs := (hB 7)) (hs1 := (hB 8)) rfl rfl (As := [.int (nI 14)]) (fun _ => 0) (fun _ _ => 0) (fun _ _ => 0) (fun K h => kq_X0_includeOne l 1 D C K h _ _ _ _ 14 (by decide) (by decide)) gX6_init_X0_includeOne rfl ⟨rfl, rfl⟩ yd_X0_includeOne ⟨Nat.le_of_ble_eq_true rfl, Nat.le_of_ble_eq_true rfl⟩ rfl rfl (Nat.le_of_ble_eq_true rfl) ⟨Nat.le_of_ble_eq_true rfl, Nat.le_of_ble_eq_true rfl⟩ dX6_init_67 ?_
                                    refine zz_world (P' := (LPw (zz_A (fun q => q = h0) s.heap.size) D [(h0, .inr (6, [.ref qa1, .null, .null, .null, .int 0, .int 0, .int 0])), (qa1, .inl (C 4, 8, .inr (.inr (.inr (.inr (rf [qn2, qn4, qn6, qn8, qn10, qn12, qn14, qn16])))))), (qn2, .inr (0, [.ref ui3])), (ui3, .inl (C 2, 16, .inr (.inl (WH hA1 0)))), (qn4, .inr (0, [.ref ui5])), (ui5, .inl (C 2, 16, .inr (.inl (WH (hB 8) 1)))), (qn6, .inr (0, [.ref ui7])), (ui7, .inl (C 2, 16, .inr (.inl (WH hZ 2)))), (qn8, .inr (0, [.ref ui9])), (ui9, .inl (C 2, 16, .inr (.inl (WH hZ 3)))), (qn10, .inr (0, [.ref ui11])), (ui11, .inl (C 2, 16, .inr (.inl (WH hZ 4)))), (qn12, .inr (0, [.ref ui13])), (ui13, .inl (C 2, 16, .inr (.inl (WH hZ 5)))), (qn14, .inr (0, [.ref ui15])), (ui15, .inl (C 2, 16, .inr (.inl (WH hZ 6)))), (qn16, .inr (0, [.ref ui17])), (ui17, .inl (C 2, 16, .inr (.inl (WH hZ 7))))])) (fun _ h => h) ?_
                                    refine zz_iinc 70 X.1 0 (v := (nI 16)) (lv' := [(1, .int (nI 16)), (0, .ref h0)]) dX6_init_70 rfl (nI_add _ _) (by decide) rfl ?_
                                    refine zz_goto 73 54 X.1 dX6_init_73 (by decide) ?_
                                    refine zz_iload_n 54 X.1 0 dX6_init_54 rfl ?_
                                    refine zz_bipush 55 X.1 (v := nI 18) dX6_init_55 rfl ?_
                                    refine zz_icmp_gt 57 76 X.1 (nI_toInt (by omega)) (nI_toInt (by omega)) dX6_init_57 (by decide) (fun h57 => ?_) (fun h57 => ?_)
                                    · exfalso; omega
                                    · skip
                                      refine zz_aload_n 60 X.1 1 dX6_init_60 rfl ?_
                                      refine zl_get 61 X h6_u6 rfl 0 rfl 0 (by decide) h6_sets rfl (v := .ref qa1) rfl dX6_init_61 ?_
                                      refine zz_iconst 64 X.1 (v := nI 1) dX6_init_64 rfl ?_
                                      refine zl_aald 65 X 1 4 rfl rfl (Nat.le_of_ble_eq_true rfl) (by decide) (v := .ref qn4) rfl dX6_init_65 ?_
                                      refine zz_iload_n 66 X.1 0 dX6_init_66 rfl ?_
                                      refine zl_callQ2 67 X hml hA 4 5 (q := qn4) (u := ui5) (s0 := 1) (hs := (hB 8)) (hs1 := (hB 9)) rfl rfl (As := [.int (nI 16)]) (fun _ => 0) (fun _ _ => 0) (fun _ _ => 0) (fun K h => kq_X0_includeOne l 1 D C K h _ _ _ _ 16 (by decide) (by decide)) gX6_init_X0_includeOne rfl ⟨rfl, rfl⟩ yd_X0_includeOne ⟨Nat.le_of_ble_eq_true rfl, Nat.le_of_ble_eq_true rfl⟩ rfl rfl (Nat.le_of_ble_eq_true rfl) ⟨Nat.le_of_ble_eq_true rfl, Nat.le_of_ble_eq_true rfl⟩ dX6_init_67 ?_
                                      refine zz_world (P' := (LPw (zz_A (fun q => q = h0) s.heap.size) D [(h0, .inr (6, [.ref qa1, .null, .null, .null, .int 0, .int 0, .int 0])), (qa1, .inl (C 4, 8, .inr (.inr (.inr (.inr (rf [qn2, qn4, qn6, qn8, qn10, qn12, qn14, qn16])))))), (qn2, .inr (0, [.ref ui3])), (ui3, .inl (C 2, 16, .inr (.inl (WH hA1 0)))), (qn4, .inr (0, [.ref ui5])), (ui5, .inl (C 2, 16, .inr (.inl (WH (hB 9) 1)))), (qn6, .inr (0, [.ref ui7])), (ui7, .inl (C 2, 16, .inr (.inl (WH hZ 2)))), (qn8, .inr (0, [.ref ui9])), (ui9, .inl (C 2, 16, .inr (.inl (WH hZ 3)))), (qn10, .inr (0, [.ref ui11])), (ui11, .inl (C 2, 16, .inr (.inl (WH hZ 4)))), (qn12, .inr (0, [.ref ui13])), (ui13, .inl (C 2, 16, .inr (.inl (WH hZ 5)))), (qn14, .inr (0, [.ref ui15])), (ui15, .inl (C 2, 16, .inr (.inl (WH hZ 6)))), (qn16, .inr (0, [.ref ui17])), (ui17, .inl (C 2, 16, .inr (.inl (WH hZ 7))))])) (fun _ h => h) ?_
                                      refine zz_iinc 70 X.1 0 (v := (nI 18)) (lv' := [(1, .int (nI 18)), (0, .ref h0)]) dX6_init_70 rfl (nI_add _ _) (by decide) rfl ?_
                                      refine zz_goto 73 54 X.1 dX6_init_73 (by decide) ?_
                                      refine zz_iload_n 54 X.1 0 dX6_init_54 rfl ?_
                                      refine zz_bipush 55 X.1 (v := nI 18) dX6_init_55 rfl ?_
                                      refine zz_icmp_gt 57 76 X.1 (nI_toInt (by omega)) (nI_toInt (by omega)) dX6_init_57 (by decide) (fun h57 => ?_) (fun h57 => ?_)
                                      · exfalso; omega
                                      · skip
                                        refine zz_aload_n 60 X.1 1 dX6_init_60 rfl ?_
                                        refine zl_get 61 X h6_u6 rfl 0 rfl 0 (by decide) h6_sets rfl (v := .ref qa1) rfl dX6_init_61 ?_
                                        refine zz_iconst 64 X.1 (v := nI 1) dX6_init_64 rfl ?_
                                        refine zl_aald 65 X 1 4 rfl rfl (Nat.le_of_ble_eq_true rfl) (by decide) (v := .ref qn4) rfl dX6_init_65 ?_
                                        refine zz_iload_n 66 X.1 0 dX6_init_66 rfl ?_
                                        refine zl_callQ2 67 X hml hA 4 5 (q := qn4) (u := ui5) (s0 := 1) (hs := (hB 9)) (hs1 := (hB 10)) rfl rfl (As := [.int (nI 18)]) (fun _ => 0) (fun _ _ => 0) (fun _ _ => 0) (fun K h => kq_X0_includeOne l 1 D C K h _ _ _ _ 18 (by decide) (by decide)) gX6_init_X0_includeOne rfl ⟨rfl, rfl⟩ yd_X0_includeOne ⟨Nat.le_of_ble_eq_true rfl, Nat.le_of_ble_eq_true rfl⟩ rfl rfl (Nat.le_of_ble_eq_true rfl) ⟨Nat.le_of_ble_eq_true rfl, Nat.le_of_ble_eq_true rfl⟩ dX6_init_67 ?_
                                        refine zz_world (P' := (LPw (zz_A (fun q => q = h0) s.heap.size) D [(h0, .inr (6, [.ref qa1, .null, .null, .null, .int 0, .int 0, .int 0])), (qa1, .inl (C 4, 8, .inr (.inr (.inr (.inr (rf [qn2, qn4, qn6, qn8, qn10, qn12, qn14, qn16])))))), (qn2, .inr (0, [.ref ui3])), (ui3, .inl (C 2, 16, .inr (.inl (WH hA1 0)))), (qn4, .inr (0, [.ref ui5])), (ui5, .inl (C 2, 16, .inr (.inl (WH (hB 10) 1)))), (qn6, .inr (0, [.ref ui7])), (ui7, .inl (C 2, 16, .inr (.inl (WH hZ 2)))), (qn8, .inr (0, [.ref ui9])), (ui9, .inl (C 2, 16, .inr (.inl (WH hZ 3)))), (qn10, .inr (0, [.ref ui11])), (ui11, .inl (C 2, 16, .inr (.inl (WH hZ 4)))), (qn12, .inr (0, [.ref ui13])), (ui13, .inl (C 2, 16, .inr (.inl (WH hZ 5)))), (qn14, .inr (0, [.ref ui15])), (ui15, .inl (C 2, 16, .inr (.inl (WH hZ 6)))), (qn16, .inr (0, [.ref ui17])), (ui17, .inl (C 2, 16, .inr (.inl (WH hZ 7))))])) (fun _ h => h) ?_
                                        refine zz_iinc 70 X.1 0 (v := (nI 20)) (lv' := [(1, .int (nI 20)), (0, .ref h0)]) dX6_init_70 rfl (nI_add _ _) (by decide) rfl ?_
                                        refine zz_goto 73 54 X.1 dX6_init_73 (by decide) ?_
                                        refine zz_iload_n 54 X.1 0 dX6_init_54 rfl ?_
                                        refine zz_bipush 55 X.1 (v := nI 18) dX6_init_55 rfl ?_
                                        refine zz_icmp_gt 57 76 X.1 (nI_toInt (by omega)) (nI_toInt (by omega)) dX6_init_57 (by decide) (fun h57 => ?_) (fun h57 => ?_)
                                        · skip
                                          refine zl_gets 76 X hZ6 h6_f2 dX6_init_76 ?_
                                          refine zz_astore_n 79 X.1 (lv' := [(1, .ref tb), (0, .ref h0)]) dX6_init_79 (by decide) rfl ?_
                                          refine zz_aload_n 80 X.1 0 dX6_init_80 rfl ?_
                                          refine zs_tlen 81 X.1 hT6 (v := nI 11) rfl dX6_init_81 ?_
                                          refine zz_istore_n 82 X.1 (lv' := [(2, .int (nI 11)), (1, .ref tb), (0, .ref h0)]) dX6_init_82 (by decide) rfl ?_
                                          refine zz_iconst 83 X.1 (v := nI 0) dX6_init_83 rfl ?_
                                          refine zz_istore_n 84 X.1 (lv' := [(3, .int (nI 0)), (2, .int (nI 11)), (1, .ref tb), (0, .ref h0)]) dX6_init_84 (by decide) rfl ?_
                                          refine zz_iload_n 85 X.1 0 dX6_init_85 rfl ?_
                                          refine zz_iload_n 86 X.1 1 dX6_init_86 rfl ?_
                                          refine zz_icmp_ge 87 112 X.1 (nI_toInt (by omega)) (nI_toInt (by omega)) dX6_init_87 (by decide) (fun h87 => ?_) (fun h87 => ?_)
                                          · exfalso; omega
                                          · skip
                                            refine zz_aload_n 90 X.1 2 dX6_init_90 rfl ?_
                                            refine zz_iload_n 91 X.1 0 dX6_init_91 rfl ?_
                                            refine zl_tia 92 X hT6 (i := 0) (Nat.le_of_ble_eq_true rfl) (by decide) (v := .int (nI 1)) rfl dX6_init_92 ?_
                                            refine zz_istore 93 X.1 (lv' := [(4, .int (nI 1)), (3, .int (nI 0)), (2, .int (nI 11)), (1, .ref tb), (0, .ref h0)]) dX6_init_93 (by decide) rfl ?_
                                            refine zz_aload_n 95 X.1 4 dX6_init_95 rfl ?_
                                            refine zl_get 96 X h6_u6 rfl 0 rfl 0 (by decide) h6_sets rfl (v := .ref qa1) rfl dX6_init_96 ?_
                                            refine zz_iconst 99 X.1 (v := nI 2) dX6_init_99 rfl ?_
                                            refine zl_aald 100 X 1 4 rfl rfl (Nat.le_of_ble_eq_true rfl) (by decide) (v := .ref qn6) rfl dX6_init_100 ?_
                                            refine zz_iload 101 X.1 0 dX6_init_101 rfl ?_
                                            refine zl_callQ2 103 X hml hA 6 7 (q := qn6) (u := ui7) (s0 := 2) (hs := hZ) (hs1 := (hC2 1)) rfl rfl (As := [.int (nI 1)]) (fun _ => 0) (fun _ _ => 0) (fun _ _ => 0) (fun K h => kq_X0_includeOne l 2 D C K h _ _ _ _ 1 (by decide) (by decide)) gX6_init_X0_includeOne rfl ⟨rfl, rfl⟩ yd_X0_includeOne ⟨Nat.le_of_ble_eq_true rfl, Nat.le_of_ble_eq_true rfl⟩ rfl rfl (Nat.le_of_ble_eq_true rfl) ⟨Nat.le_of_ble_eq_true rfl, Nat.le_of_ble_eq_true rfl⟩ dX6_init_103 ?_
                                            refine zz_world (P' := (LPw (zz_A (fun q => q = h0) s.heap.size) D [(h0, .inr (6, [.ref qa1, .null, .null, .null, .int 0, .int 0, .int 0])), (qa1, .inl (C 4, 8, .inr (.inr (.inr (.inr (rf [qn2, qn4, qn6, qn8, qn10, qn12, qn14, qn16])))))), (qn2, .inr (0, [.ref ui3])), (ui3, .inl (C 2, 16, .inr (.inl (WH hA1 0)))), (qn4, .inr (0, [.ref ui5])), (ui5, .inl (C 2, 16, .inr (.inl (WH (hB 10) 1)))), (qn6, .inr (0, [.ref ui7])), (ui7, .inl (C 2, 16, .inr (.inl (WH (hC2 1) 2)))), (qn8, .inr (0, [.ref ui9])), (ui9, .inl (C 2, 16, .inr (.inl (WH hZ 3)))), (qn10, .inr (0, [.ref ui11])), (ui11, .inl (C 2, 16, .inr (.inl (WH hZ 4)))), (qn12, .inr (0, [.ref ui13])), (ui13, .inl (C 2, 16, .inr (.inl (WH hZ 5)))), (qn14, .inr (0, [.ref ui15])), (ui15, .inl (C 2, 16, .inr (.inl (WH hZ 6)))), (qn16, .inr (0, [.ref ui17])), (ui17, .inl (C 2, 16, .inr (.inl (WH hZ 7))))])) (fun _ h => h) ?_
                                            refine zz_iinc 106 X.1 1 (v := (nI 1)) (lv' := [(3, .int (nI 1)), (4, .int (nI 1)), (2, .int (nI 11)), (1, .ref tb), (0, .ref h0)]) dX6_init_106 rfl (nI_add _ _) (by decide) rfl ?_
                                            refine zz_goto 109 85 X.1 dX6_init_109 (by decide) ?_
                                            refine zz_iload_n 85 X.1 0 dX6_init_85 rfl ?_
                                            refine zz_iload_n 86 X.1 2 dX6_init_86 rfl ?_
                                            refine zz_icmp_ge 87 112 X.1 (nI_toInt (by omega)) (nI_toInt (by omega)) dX6_init_87 (by decide) (fun h87 => ?_) (fun h87 => ?_)
                                            · exfalso; omega
                                            · skip
                                              refine zz_aload_n 90 X.1 3 dX6_init_90 rfl ?_
                                              refine zz_iload_n 91 X.1 0 dX6_init_91 rfl ?_
                                              refine zl_tia 92 X hT6 (i := 1) (Nat.le_of_ble_eq_true rfl) (by decide) (v := .int (nI 2)) rfl dX6_init_92 ?_
                                              refine zz_istore 93 X.1 (lv' := [(4, .int (nI 2)), (3, .int (nI 1)), (2, .int (nI 11)), (1, .ref tb), (0, .ref h0)]) dX6_init_93 (by decide) rfl ?_
                                              refine zz_aload_n 95 X.1 4 dX6_init_95 rfl ?_
                                              refine zl_get 96 X h6_u6 rfl 0 rfl 0 (by decide) h6_sets rfl (v := .ref qa1) rfl dX6_init_96 ?_
                                              refine zz_iconst 99 X.1 (v := nI 2) dX6_init_99 rfl ?_
                                              refine zl_aald 100 X 1 4 rfl rfl (Nat.le_of_ble_eq_true rfl) (by decide) (v := .ref qn6) rfl dX6_init_100 ?_
                                              refine zz_iload 101 X.1 0 dX6_init_101 rfl ?_
                                              refine zl_callQ2 103 X hml hA 6 7 (q := qn6) (u := ui7) (s0 := 2) (hs := (hC2 1)) (hs1 := (hC2 2)) rfl rfl (As := [.int (nI 2)]) (fun _ => 0) (fun _ _ => 0) (fun _ _ => 0) (fun K h => kq_X0_includeOne l 2 D C K h _ _ _ _ 2 (by decide) (by decide)) gX6_init_X0_includeOne rfl ⟨rfl, rfl⟩ yd_X0_includeOne ⟨Nat.le_of_ble_eq_true rfl, Nat.le_of_ble_eq_true rfl⟩ rfl rfl (Nat.le_of_ble_eq_true rfl) ⟨Nat.le_of_ble_eq_true rfl, Nat.le_of_ble_eq_true rfl⟩ dX6_init_103 ?_
                                              refine zz_world (P' := (LPw (zz_A (fun q => q = h0) s.heap.size) D [(h0, .inr (6, [.ref qa1, .null, .null, .null, .int 0, .int 0, .int 0])), (qa1, .inl (C 4, 8, .inr (.inr (.inr (.inr (rf [qn2, qn4, qn6, qn8, qn10, qn12, qn14, qn16])))))), (qn2, .inr (0, [.ref ui3])), (ui3, .inl (C 2, 16, .inr (.inl (WH hA1 0)))), (qn4, .inr (0, [.ref ui5])), (ui5, .inl (C 2, 16, .inr (.inl (WH (hB 10) 1)))), (qn6, .inr (0, [.ref ui7])), (ui7, .inl (C 2, 16, .inr (.inl (WH (hC2 2) 2)))), (qn8, .inr (0, [.ref ui9])), (ui9, .inl (C 2, 16, .inr (.inl (WH hZ 3)))), (qn10, .inr (0, [.ref ui11])), (ui11, .inl (C 2, 16, .inr (.inl (WH hZ 4)))), (qn12, .inr (0, [.ref ui13])), (ui13, .inl (C 2, 16, .inr (.inl (WH hZ 5)))), (qn14, .inr (0, [.ref ui15])), (ui15, .inl (C 2, 16, .inr (.inl (WH hZ 6)))), (qn16, .inr (0, [.ref ui17])), (ui17, .inl (C 2, 16, .inr (.inl (WH hZ 7))))])) (fun _ h => h) ?_
                                              refine zz_iinc 106 X.1 1 (v := (nI 2)) (lv' := [(3, .int (nI 2)), (4, .int (nI 2)), (2, .int (nI 11)), (1, .ref tb), (0, .ref h0)]) dX6_init_106 rfl (nI_add _ _) (by decide) rfl ?_
                                              refine zz_goto 109 85 X.1 dX6_init_109 (by decide) ?_
                                              refine zz_iload_n 85 X.1 0 dX6_init_85 rfl ?_
                                              refine zz_iload_n 86 X.1 2 dX6_init_86 rfl ?_
                                              refine zz_icmp_ge 87 112 X.1 (nI_toInt (by omega)) (nI_toInt (by omega)) dX6_init_87 (by decide) (fun h87 => ?_) (fun h87 => ?_)
                                              · exfalso; omega
                                              · skip
                                                refine zz_aload_n 90 X.1 3 dX6_init_90 rfl ?_
                                                refine zz_iload_n 91 X.1 0 dX6_init_91 rfl ?_
                                                refine zl_tia 92 X hT6 (i := 2) (Nat.le_of_ble_eq_true rfl) (by decide) (v := .int (nI 3)) rfl dX6_init_92 ?_
                                                refine zz_istore 93 X.1 (lv' := [(4, .int (nI 3)), (3, .int (nI 2)), (2, .int (nI 11)), (1, .ref tb), (0, .ref h0)]) dX6_init_93 (by decide) rfl ?_
                                                refine zz_aload_n 95 X.1 4 dX6_init_95 rfl ?_
                                                refine zl_get 96 X h6_u6 rfl 0 rfl 0 (by decide) h6_sets rfl (v := .ref qa1) rfl dX6_init_96 ?_
                                                refine zz_iconst 99 X.1 (v := nI 2) dX6_init_99 rfl ?_
                                                refine zl_aald 100 X 1 4 rfl rfl (Nat.le_of_ble_eq_true rfl) (by decide) (v := .ref qn6) rfl dX6_init_100 ?_
                                                refine zz_iload 101 X.1 0 dX6_init_101 rfl ?_
                                                refine zl_callQ2 103 X hml hA 6 7 (q := qn6) (u := ui7) (s0 := 2) (hs := (hC2 2)) (hs1 := (hC2 3)) rfl rfl (As := [.int (nI 3)]) (fun _ => 0) (fun _ _ => 0) (fun _ _ => 0) (fun K h => kq_X0_includeOne l 2 D C K h _ _ _ _ 3 (by decide) (by decide)) gX6_init_X0_includeOne rfl ⟨rfl, rfl⟩ yd_X0_includeOne ⟨Nat.le_of_ble_eq_true rfl, Nat.le_of_ble_eq_true rfl⟩ rfl rfl (Nat.le_of_ble_eq_true rfl) ⟨Nat.le_of_ble_eq_true rfl, Nat.le_of_ble_eq_true rfl⟩ dX6_init_103 ?_
                                                refine zz_world (P' := (LPw (zz_A (fun q => q = h0) s.heap.size) D [(h0, .inr (6, [.ref qa1, .null, .null, .null, .int 0, .int 0, .int 0])), (qa1, .inl (C 4, 8, .inr (.inr (.inr (.inr (rf [qn2, qn4, qn6, qn8, qn10, qn12, qn14, qn16])))))), (qn2, .inr (0, [.ref ui3])), (ui3, .inl (C 2, 16, .inr (.inl (WH hA1 0)))), (qn4, .inr (0, [.ref ui5])), (ui5, .inl (C 2, 16, .inr (.inl (WH (hB 10) 1)))), (qn6, .inr (0, [.ref ui7])), (ui7, .inl (C 2, 16, .inr (.inl (WH (hC2 3) 2)))), (qn8, .inr (0, [.ref ui9])), (ui9, .inl (C 2, 16, .inr (.inl (WH hZ 3)))), (qn10, .inr (0, [.ref ui11])), (ui11, .inl (C 2, 16, .inr (.inl (WH hZ 4)))), (qn12, .inr (0, [.ref ui13])), (ui13, .inl (C 2, 16, .inr (.inl (WH hZ 5)))), (qn14, .inr (0, [.ref ui15])), (ui15, .inl (C 2, 16, .inr (.inl (WH hZ 6)))), (qn16, .inr (0, [.ref ui17])), (ui17, .inl (C 2, 16, .inr (.inl (WH hZ 7))))])) (fun _ h => h) ?_
                                                refine zz_iinc 106 X.1 1 (v := (nI 3)) (lv' := [(3, .int (nI 3)), (4, .int (nI 3)), (2, .int (nI 11)), (1, .ref tb), (0, .ref h0)]) dX6_init_106 rfl (nI_add _ _) (by decide) rfl ?_
                                                refine zz_goto 109 85 X.1 dX6_init_109 (by decide) ?_
                                                refine zz_iload_n 85 X.1 0 dX6_init_85 rfl ?_
                                                refine zz_iload_n 86 X.1 2 dX6_init_86 rfl ?_
                                                refine zz_icmp_ge 87 112 X.1 (nI_toInt (by omega)) (nI_toInt (by omega)) dX6_init_87 (by decide) (fun h87 => ?_) (fun h87 => ?_)
                                                · exfalso; omega
                                                · skip
                                                  refine zz_aload_n 90 X.1 3 dX6_init_90 rfl ?_
                                                  refine zz_iload_n 91 X.1 0 dX6_init_91 rfl ?_
                                                  refine zl_tia 92 X hT6 (i := 3) (Nat.le_of_ble_eq_true rfl) (by decide) (v := .int (nI 5)) rfl dX6_init_92 ?_
                                                  refine zz_istore 93 X.1 (lv' := [(4, .int (nI 5)), (3, .int (nI 3)), (2, .int (nI 11)), (1, .ref tb), (0, .ref h0)]) dX6_init_93 (by decide) rfl ?_
                                                  refine zz_aload_n 95 X.1 4 dX6_init_95 rfl ?_
                                                  refine zl_get 96 X h6_u6 rfl 0 rfl 0 (by decide) h6_sets rfl (v := .ref qa1) rfl dX6_init_96 ?_
                                                  refine zz_iconst 99 X.1 (v := nI 2) dX6_init_99 rfl ?_
                                                  refine zl_aald 100 X 1 4 rfl rfl (Nat.le_of_ble_eq_true rfl) (by decide) (v := .ref qn6) rfl dX6_init_100 ?_
                                                  refine zz_iload 101 X.1 0 dX6_init_101 rfl ?_
                                                  refine zl_callQ2 103 X hml hA 6 7 (q := qn6) (u := ui7) (s0 := 2) (hs := (hC2 3)) (hs1 := (hC2 4)) rfl rfl (As := [.int (nI 5)]) (fun _ => 0) (fun _ _ => 0) (fun _ _ => 0) (fun K h => kq_X0_includeOne l 2 D C K h _ _ _ _ 5 (by decide) (by decide)) gX6_init_X0_includeOne rfl ⟨rfl, rfl⟩ yd_X0_includeOne ⟨Nat.le_of_ble_eq_true rfl, Nat.le_of_ble_eq_true rfl⟩ rfl rfl (Nat.le_of_ble_eq_true rfl) ⟨Nat.le_of_ble_eq_true rfl, Nat.le_of_ble_eq_true rfl⟩ dX6_init_103 ?_
                                                  refine zz_world (P' := (LPw (zz_A (fun q => q = h0) s.heap.size) D [(h0, .inr (6, [.ref qa1, .null, .null, .null, .int 0, .int 0, .int 0])), (qa1, .inl (C 4, 8, .inr (.inr (.inr (.inr (rf [qn2, qn4, qn6, qn8, qn10, qn12, qn14, qn16])))))), (qn2, .inr (0, [.ref ui3])), (ui3, .inl (C 2, 16, .inr (.inl (WH hA1 0)))), (qn4, .inr (0, [.ref ui5])), (ui5, .inl (C 2, 16, .inr (.inl (WH (hB 10) 1)))), (qn6, .inr (0, [.ref ui7])), (ui7, .inl (C 2, 16, .inr (.inl (WH (hC2 4) 2)))), (qn8, .inr (0, [.ref ui9])), (ui9, .inl (C 2, 16, .inr (.inl (WH hZ 3)))), (qn10, .inr (0, [.ref ui11])), (ui11, .inl (C 2, 16, .inr (.inl (WH hZ 4)))), (qn12, .inr (0, [.ref ui13])), (ui13, .inl (C 2, 16, .inr (.inl (WH hZ 5)))), (qn14, .inr (0, [.ref ui15])), (ui15, .inl (C 2, 16, .inr (.inl (WH hZ 6)))), (qn16, .inr (0, [.ref ui17])), (ui17, .inl (C 2, 16, .inr (.inl (WH hZ 7))))])) (fun _ h => h) ?_
                                                  refine zz_iinc 106 X.1 1 (v := (nI 4)) (lv' := [(3, .int (nI 4)), (4, .int (nI 5)), (2, .int (nI 11)), (1, .ref tb), (0, .ref h0)]) dX6_init_106 rfl (nI_add _ _) (by decide) rfl ?_
                                                  refine zz_goto 109 85 X.1 dX6_init_109 (by decide) ?_
                                                  refine zz_iload_n 85 X.1 0 dX6_init_85 rfl ?_
                                                  refine zz_iload_n 86 X.1 2 dX6_init_86 rfl ?_
                                                  refine zz_icmp_ge 87 112 X.1 (nI_toInt (by omega)) (nI_toInt (by omega)) dX6_init_87 (by decide) (fun h87 => ?_) (fun h87 => ?_)
                                                  · exfalso; omega
                                                  · skip
                                                    refine zz_aload_n 90 X.1 3 dX6_init_90 rfl ?_
                                                    refine zz_iload_n 91 X.1 0 dX6_init_91 rfl ?_
                                                    refine zl_tia 92 X hT6 (i := 4) (Nat.le_of_ble_eq_true rfl) (by decide) (v := .int (nI 8)) rfl dX6_init_92 ?_
                                                    refine zz_istore 93 X.1 (lv' := [(4, .int (nI 8)), (3, .int (nI 4)), (2, .int (nI 11)), (1, .ref tb), (0, .ref h0)]) dX6_init_93 (by decide) rfl ?_
                                                    refine zz_aload_n 95 X.1 4 dX6_init_95 rfl ?_
                                                    refine zl_get 96 X h6_u6 rfl 0 rfl 0 (by decide) h6_sets rfl (v := .ref qa1) rfl dX6_init_96 ?_
                                                    refine zz_iconst 99 X.1 (v := nI 2) dX6_init_99 rfl ?_
                                                    refine zl_aald 100 X 1 4 rfl rfl (Nat.le_of_ble_eq_true rfl) (by decide) (v := .ref qn6) rfl dX6_init_100 ?_
                                                    refine zz_iload 101 X.1 0 dX6_init_101 rfl ?_
                                                    refine zl_callQ2 103 X hml hA 6 7 (q := qn6) (u := ui7) (s0 := 2) (hs := (hC2 4)) (hs1 := (hC2 5)) rfl rfl (As := [.int (nI 8)]) (fun _ => 0) (fun _ _ => 0) (fun _ _ => 0) (fun K h => kq_X0_includeOne l 2 D C K h _ _ _ _ 8 (by decide) (by decide)) gX6_init_X0_includeOne rfl ⟨rfl, rfl⟩ yd_X0_includeOne ⟨Nat.le_of_ble_eq_true rfl, Nat.le_of_ble_eq_true rfl⟩ rfl rfl (Nat.le_of_ble_eq_true rfl) ⟨Nat.le_of_ble_eq_true rfl, Nat.le_of_ble_eq_true rfl⟩ dX6_init_103 ?_
                                                    refine zz_world (P' := (LPw (zz_A (fun q => q = h0) s.heap.size) D [(h0, .inr (6, [.ref qa1, .null, .null, .null, .int 0, .int 0, .int 0])), (qa1, .inl (C 4, 8, .inr (.inr (.inr (.inr (rf [qn2, qn4, qn6, qn8, qn10, qn12, qn14, qn16])))))), (qn2, .inr (0, [.ref ui3])), (ui3, .inl (C 2, 16, .inr (.inl (WH hA1 0)))), (qn4, .inr (0, [.ref ui5])), (ui5, .inl (C 2, 16, .inr (.inl (WH (hB 10) 1)))), (qn6, .inr (0, [.ref ui7])), (ui7, .inl (C 2, 16, .inr (.inl (WH (hC2 5) 2)))), (qn8, .inr (0, [.ref ui9])), (ui9, .inl (C 2, 16, .inr (.inl (WH hZ 3)))), (qn10, .inr (0, [.ref ui11])), (ui11, .inl (C 2, 16, .inr (.inl (WH hZ 4)))), (qn12, .inr (0, [.ref ui13])), (ui13, .inl (C 2, 16, .inr (.inl (WH hZ 5)))), (qn14, .inr (0, [.ref ui15])), (ui15, .inl (C 2, 16, .inr (.inl (WH hZ 6)))), (qn16, .inr (0, [.ref ui17])), (ui17, .inl (C 2, 16, .inr (.inl (WH hZ 7))))])) (fun _ h => h) ?_
                                                    refine zz_iinc 106 X.1 1 (v := (nI 5)) (lv' := [(3, .int (nI 5)), (4, .int (nI 8)), (2, .int (nI 11)), (1, .ref tb), (0, .ref h0)]) dX6_init_106 rfl (nI_add _ _) (by decide) rfl ?_
                                                    refine zz_goto 109 85 X.1 dX6_init_109 (by decide) ?_
                                                    refine zz_iload_n 85 X.1 0 dX6_init_85 rfl ?_
                                                    refine zz_iload_n 86 X.1 2 dX6_init_86 rfl ?_
                                                    refine zz_icmp_ge 87 112 X.1 (nI_toInt (by omega)) (nI_toInt (by omega)) dX6_init_87 (by decide) (fun h87 => ?_) (fun h87 => ?_)
                                                    · exfalso; omega
                                                    · skip
                                                      refine zz_aload_n 90 X.1 3 dX6_init_90 rfl ?_
                                                      refine zz_iload_n 91 X.1 0 dX6_init_91 rfl ?_
                                                      refine zl_tia 92 X hT6 (i := 5) (Nat.le_of_ble_eq_true rfl) (by decide) (v := .int (nI 13)) rfl dX6_init_92 ?_
                                                      refine zz_istore 93 X.1 (lv' := [(4, .int (nI 13)), (3, .int (nI 5)), (2, .int (nI 11)), (1, .ref tb), (0, .ref h0)]) dX6_init_93 (by decide) rfl ?_
                                                      refine zz_aload_n 95 X.1 4 dX6_init_95 rfl ?_
                                                      refine zl_get 96 X h6_u6 rfl 0 rfl 0 (by decide) h6_sets rfl (v := .ref qa1) rfl dX6_init_96 ?_
                                                      refine zz_iconst 99 X.1 (v := nI 2) dX6_init_99 rfl ?_
                                                      refine zl_aald 100 X 1 4 rfl rfl (Nat.le_of_ble_eq_true rfl) (by decide) (v := .ref qn6) rfl dX6_init_100 ?_
                                                      refine zz_iload 101 X.1 0 dX6_init_101 rfl ?_
                                                      refine zl_callQ2 103 X hml hA 6 7 (q := qn6) (u := ui7) (s0 := 2) (hs := (hC2 5)) (hs1 := (hC2 6)) rfl rfl (As := [.int (nI 13)]) (fun _ => 0) (fun _ _ => 0) (fun _ _ => 0) (fun K h => kq_X0_includeOne l 2 D C K h _ _ _ _ 13 (by decide) (by decide)) gX6_init_X0_includeOne rfl ⟨rfl, rfl⟩ yd_X0_includeOne ⟨Nat.le_of_ble_eq_true rfl, Nat.le_of_ble_eq_true rfl⟩ rfl rfl (Nat.le_of_ble_eq_true rfl) ⟨Nat.le_of_ble_eq_true rfl, Nat.le_of_ble_eq_true rfl⟩ dX6_init_103 ?_
                                                      refine zz_world (P' := (LPw (zz_A (fun q => q = h0) s.heap.size) D [(h0, .inr (6, [.ref qa1, .null, .null, .null, .int 0, .int 0, .int 0])), (qa1, .inl (C 4, 8, .inr (.inr (.inr (.inr (rf [qn2, qn4, qn6, qn8, qn10, qn12, qn14, qn16])))))), (qn2, .inr (0, [.ref ui3])), (ui3, .inl (C 2, 16, .inr (.inl (WH hA1 0)))), (qn4, .inr (0, [.ref ui5])), (ui5, .inl (C 2, 16, .inr (.inl (WH (hB 10) 1)))), (qn6, .inr (0, [.ref ui7])), (ui7, .inl (C 2, 16, .inr (.inl (WH (hC2 6) 2)))), (qn8, .inr (0, [.ref ui9])), (ui9, .inl (C 2, 16, .inr (.inl (WH hZ 3)))), (qn10, .inr (0, [.ref ui11])), (ui11, .inl (C 2, 16, .inr (.inl (WH hZ 4)))), (qn12, .inr (0, [.ref ui13])), (ui13, .inl (C 2, 16, .inr (.inl (WH hZ 5)))), (qn14, .inr (0, [.ref ui15])), (ui15, .inl (C 2, 16, .inr (.inl (WH hZ 6)))), (qn16, .inr (0, [.ref ui17])), (ui17, .inl (C 2, 16, .inr (.inl (WH hZ 7))))])) (fun _ h => h) ?_
                                                      refine zz_iinc 106 X.1 1 (v := (nI 6)) (lv' := [(3, .int (nI 6)), (4, .int (nI 13)), (2, .int (nI 11)), (1, .ref tb), (0, .ref h0)]) dX6_init_106 rfl (nI_add _ _) (by decide) rfl ?_
                                                      refine zz_goto 109 85 X.1 dX6_init_109 (by decide) ?_
                                                      refine zz_iload_n 85 X.1 0 dX6_init_85 rfl ?_
                                                      refine zz_iload_n 86 X.1 2 dX6_init_86 rfl ?_
                                                      refine zz_icmp_ge 87 112 X.1 (nI_toInt (by omega)) (nI_toInt (by omega)) dX6_init_87 (by decide) (fun h87 => ?_) (fun h87 => ?_)
                                                      · exfalso; omega
                                                      · skip
                                                        refine zz_aload_n 90 X.1 3 dX6_init_90 rfl ?_
                                                        refine zz_iload_n 91 X.1 0 dX6_init_91 rfl ?_
                                                        refine zl_tia 92 X hT6 (i := 6) (Nat.le_of_ble_eq_true rfl) (by decide) (v := .int (nI 21)) rfl dX6_init_92 ?_
                                                        refine zz_istore 93 X.1 (lv' := [(4, .int (nI 21)), (3, .int (nI 6)), (2, .int (nI 11)), (1, .ref tb), (0, .ref h0)]) dX6_init_93 (by decide) rfl ?_
                                                        refine zz_aload_n 95 X.1 4 dX6_init_95 rfl ?_
                                                        refine zl_get 96 X h6_u6 rfl 0 rfl 0 (by decide) h6_sets rfl (v := .ref qa1) rfl dX6_init_96 ?_
                                                        refine zz_iconst 99 X.1 (v := nI 2) dX6_init_99 rfl ?_
                                                        refine zl_aald 100 X 1 4 rfl rfl (Nat.le_of_ble_eq_true rfl) (by decide) (v := .ref qn6) rfl dX6_init_100 ?_
                                                        refine zz_iload 101 X.1 0 dX6_init_101 rfl ?_
                                                        refine zl_callQ2 103 X hml hA 6 7 (q := qn6) (u := ui7) (s0 := 2) (hs := (hC2 6)) (hs1 := (hC2 7)) rfl rfl (As := [.int (nI 21)]) (fun _ => 0) (fun _ _ => 0) (fun _ _ => 0) (fun K h => kq_X0_includeOne l 2 D C K h _ _ _ _ 21 (by decide) (by decide)) gX6_init_X0_includeOne rfl ⟨rfl, rfl⟩ yd_X0_includeOne ⟨Nat.le_of_ble_eq_true rfl, Nat.le_of_ble_eq_true rfl⟩ rfl rfl (Nat.le_of_ble_eq_true rfl) ⟨Nat.le_of_ble_eq_true rfl, Nat.le_of_ble_eq_true rfl⟩ dX6_init_103 ?_
                                                        refine zz_world (P' := (LPw (zz_A (fun q => q = h0) s.heap.size) D [(h0, .inr (6, [.ref qa1, .null, .null, .null, .int 0, .int 0, .int 0])), (qa1, .inl (C 4, 8, .inr (.inr (.inr (.inr (rf [qn2, qn4, qn6, qn8, qn10, qn12, qn14, qn16])))))), (qn2, .inr (0, [.ref ui3])), (ui3, .inl (C 2, 16, .inr (.inl (WH hA1 0)))), (qn4, .inr (0, [.ref ui5])), (ui5, .inl (C 2, 16, .inr (.inl (WH (hB 10) 1)))), (qn6, .inr (0, [.ref ui7])), (ui7, .inl (C 2, 16, .inr (.inl (WH (hC2 7) 2)))), (qn8, .inr (0, [.ref ui9])), (ui9, .inl (C 2, 16, .inr (.inl (WH hZ 3)))), (qn10, .inr (0, [.ref ui11])), (ui11, .inl (C 2, 16, .inr (.inl (WH hZ 4)))), (qn12, .inr (0, [.ref ui13])), (ui13, .inl (C 2, 16, .inr (.inl (WH hZ 5)))), (qn14, .inr (0, [.ref ui15])), (ui15, .inl (C 2, 16, .inr (.inl (WH hZ 6)))), (qn16, .inr (0, [.ref ui17])), (ui17, .inl (C 2, 16, .inr (.inl (WH hZ 7))))])) (fun _ h => h) ?_
                                                        refine zz_iinc 106 X.1 1 (v := (nI 7)) (lv' := [(3, .int (nI 7)), (4, .int (nI 21)), (2, .int (nI 11)), (1, .ref tb), (0, .ref h0)]) dX6_init_106 rfl (nI_add _ _) (by decide) rfl ?_
                                                        refine zz_goto 109 85 X.1 dX6_init_109 (by decide) ?_
                                                        refine zz_iload_n 85 X.1 0 dX6_init_85 rfl ?_
                                                        refine zz_iload_n 86 X.1 2 dX6_init_86 rfl ?_
                                                        refine zz_icmp_ge 87 112 X.1 (nI_toInt (by omega)) (nI_toInt (by omega)) dX6_init_87 (by decide) (fun h87 => ?_) (fun h87 => ?_)
                                                        · exfalso; omega
                                                        · skip
                                                          refine zz_aload_n 90 X.1 3 dX6_init_90 rfl ?_
                                                          refine zz_iload_n 91 X.1 0 dX6_init_91 rfl ?_
                                                          refine zl_tia 92 X hT6 (i := 7) (Nat.le_of_ble_eq_true rfl) (by decide) (v := .int (nI 63)) rfl dX6_init_92 ?_
                                                          refine zz_istore 93 X.1 (lv' := [(4, .int (nI 63)), (3, .int (nI 7)), (2, .int (nI 11)), (1, .ref tb), (0, .ref h0)]) dX6_init_93 (by decide) rfl ?_
                                                          refine zz_aload_n 95 X.1 4 dX6_init_95 rfl ?_
                                                          refine zl_get 96 X h6_u6 rfl 0 rfl 0 (by decide) h6_sets rfl (v := .ref qa1) rfl dX6_init_96 ?_
                                                          refine zz_iconst 99 X.1 (v := nI 2) dX6_init_99 rfl ?_
                                                          refine zl_aald 100 X 1 4 rfl rfl (Nat.le_of_ble_eq_true rfl) (by decide) (v := .ref qn6) rfl dX6_init_100 ?_
                                                          refine zz_iload 101 X.1 0 dX6_init_101 rfl ?_
                                                          refine zl_callQ2 103 X hml hA 6 7 (q := qn6) (u := ui7) (s0 := 2) (hs := (hC2 7)) (hs1 := (hC2 8)) rfl rfl (As := [.int (nI 63)]) (fun _ => 0) (fun _ _ => 0) (fun _ _ => 0) (fun K h => kq_X0_includeOne l 2 D C K h _ _ _ _ 63 (by decide) (by decide)) gX6_init_X0_includeOne rfl ⟨rfl, rfl⟩ yd_X0_includeOne ⟨Nat.le_of_ble_eq_true rfl, Nat.le_of_ble_eq_true rfl⟩ rfl rfl (Nat.le_of_ble_eq_true rfl) ⟨Nat.le_of_ble_eq_true rfl, Nat.le_of_ble_eq_true rfl⟩ dX6_init_103 ?_
                                                          refine zz_world (P' := (LPw (zz_A (fun q => q = h0) s.heap.size) D [(h0, .inr (6, [.ref qa1, .null, .null, .null, .int 0, .int 0, .int 0])), (qa1, .inl (C 4, 8, .inr (.inr (.inr (.inr (rf [qn2, qn4, qn6, qn8, qn10, qn12, qn14, qn16])))))), (qn2, .inr (0, [.ref ui3])), (ui3, .inl (C 2, 16, .inr (.inl (WH hA1 0)))), (qn4, .inr (0, [.ref ui5])), (ui5, .inl (C 2, 16, .inr (.inl (WH (hB 10) 1)))), (qn6, .inr (0, [.ref ui7])), (ui7, .inl (C 2, 16, .inr (.inl (WH (hC2 8) 2)))), (qn8, .inr (0, [.ref ui9])), (ui9, .inl (C 2, 16, .inr (.inl (WH hZ 3)))), (qn10, .inr (0, [.ref ui11])), (ui11, .inl (C 2, 16, .inr (.inl (WH hZ 4)))), (qn12, .inr (0, [.ref ui13])), (ui13, .inl (C 2, 16, .inr (.inl (WH hZ 5)))), (qn14, .inr (0, [.ref ui15])), (ui15, .inl (C 2, 16, .inr (.inl (WH hZ 6)))), (qn16, .inr (0, [.ref ui17])), (ui17, .inl (C 2, 16, .inr (.inl (WH hZ 7))))])) (fun _ h => h) ?_
                                                          refine zz_iinc 106 X.1 1 (v := (nI 8)) (lv' := [(3, .int (nI 8)), (4, .int (nI 63)), (2, .int (nI 11)), (1, .ref tb), (0, .ref h0)]) dX6_init_106 rfl (nI_add _ _) (by decide) rfl ?_
                                                          refine zz_goto 109 85 X.1 dX6_init_109 (by decide) ?_
                                                          refine zz_iload_n 85 X.1 0 dX6_init_85 rfl ?_
                                                          refine zz_iload_n 86 X.1 2 dX6_init_86 rfl ?_
                                                          refine zz_icmp_ge 87 112 X.1 (nI_toInt (by omega)) (nI_toInt (by omega)) dX6_init_87 (by decide) (fun h87 => ?_) (fun h87 => ?_)
                                                          · exfalso; omega
                                                          · skip
                                                            refine zz_aload_n 90 X.1 3 dX6_init_90 rfl ?_
                                                            refine zz_iload_n 91 X.1 0 dX6_init_91 rfl ?_
                                                            refine zl_tia 92 X hT6 (i := 8) (Nat.le_of_ble_eq_true rfl) (by decide) (v := .int (nI 64)) rfl dX6_init_92 ?_
                                                            refine zz_istore 93 X.1 (lv' := [(4, .int (nI 64)), (3, .int (nI 8)), (2, .int (nI 11)), (1, .ref tb), (0, .ref h0)]) dX6_init_93 (by decide) rfl ?_
                                                            refine zz_aload_n 95 X.1 4 dX6_init_95 rfl ?_
                                                            refine zl_get 96 X h6_u6 rfl 0 rfl 0 (by decide) h6_sets rfl (v := .ref qa1) rfl dX6_init_96 ?_
                                                            refine zz_iconst 99 X.1 (v := nI 2) dX6_init_99 rfl ?_
                                                            refine zl_aald 100 X 1 4 rfl rfl (Nat.le_of_ble_eq_true rfl) (by decide) (v := .ref qn6) rfl dX6_init_100 ?_
                                                            refine zz_iload 101 X.1 0 dX6_init_101 rfl ?_
                                                            refine zl_callQ2 103 X hml hA 6 7 (q := qn6) (u := ui7) (s0 := 2) (hs := (hC2 8)) (hs1 := (hC2 9)) rfl rfl (As := [.int (nI 64)]) (fun _ => 0) (fun _ _ => 0) (fun _ _ => 0) (fun K h => kq_X0_includeOne l 2 D C K h _ _ _ _ 64 (by decide) (by decide)) gX6_init_X0_includeOne rfl ⟨rfl, rfl⟩ yd_X0_includeOne ⟨Nat.le_of_ble_eq_true rfl, Nat.le_of_ble_eq_true rfl⟩ rfl rfl (Nat.le_of_ble_eq_true rfl) ⟨Nat.le_of_ble_eq_true rfl, Nat.le_of_ble_eq_true rfl⟩ dX6_init_103 ?_
                                                            refine zz_world (P' := (LPw (zz_A (fun q => q = h0) s.heap.size) D [(h0, .inr (6, [.ref qa1, .null, .null, .null, .int 0, .int 0, .int 0])), (qa1, .inl (C 4, 8, .inr (.inr (.inr (.inr (rf [qn2, qn4, qn6, qn8, qn10, qn12, qn14, qn16])))))), (qn2, .inr (0, [.ref ui3])), (ui3, .inl (C 2, 16, .inr (.inl (WH hA1 0)))), (qn4, .inr (0, [.ref ui5])), (ui5, .inl (C 2, 16, .inr (.inl (WH (hB 10) 1)))), (qn6, .inr (0, [.ref ui7])), (ui7, .inl (C 2, 16, .inr (.inl (WH (hC2 9) 2)))), (qn8, .inr (0, [.ref ui9])), (ui9, .inl (C 2, 16, .inr (.inl (WH hZ 3)))), (qn10, .inr (0, [.ref ui11])), (ui11, .inl (C 2, 16, .inr (.inl (WH hZ 4)))), (qn12, .inr (0, [.ref ui13])), (ui13, .inl (C 2, 16, .inr (.inl (WH hZ 5)))), (qn14, .inr (0, [.ref ui15])), (ui15, .inl (C 2, 16, .inr (.inl (WH hZ 6)))), (qn16, .inr (0, [.ref ui17])), (ui17, .inl (C 2, 16, .inr (.inl (WH hZ 7))))])) (fun _ h => h) ?_
                                                            refine zz_iinc 106 X.1 1 (v := (nI 9)) (lv' := [(3, .int (nI 9)), (4, .int (nI 64)), (2, .int (nI 11)), (1, .ref tb), (0, .ref h0)]) dX6_init_106 rfl (nI_add _ _) (by decide) rfl ?_
                                                            refine zz_goto 109 85 X.1 dX6_init_109 (by decide) ?_
                                                            refine zz_iload_n 85 X.1 0 dX6_init_85 rfl ?_
                                                            refine zz_iload_n 86 X.1 2 dX6_init_86 rfl ?_
                                                            refine zz_icmp_ge 87 112 X.1 (nI_toInt (by omega)) (nI_toInt (by omega)) dX6_init_87 (by decide) (fun h87 => ?_) (fun h87 => ?_)
                                                            · exfalso; omega
                                                            · skip
                                                              refine zz_aload_n 90 X.1 3 dX6_init_90 rfl ?_
                                                              refine zz_iload_n 91 X.1 0 dX6_init_91 rfl ?_
                                                              refine zl_tia 92 X hT6 (i := 9) (Nat.le_of_ble_eq_true rfl) (by decide) (v := .int (nI 127)) rfl dX6_init_92 ?_
                                                              refine zz_istore 93 X.1 (lv' := [(4, .int (nI 127)), (3, .int (nI 9)), (2, .int (nI 11)), (1, .ref tb), (0, .ref h0)]) dX6_init_93 (by decide) rfl ?_
                                                              refine zz_aload_n 95 X.1 4 dX6_init_95 rfl ?_
                                                              refine zl_get 96 X h6_u6 rfl 0 rfl 0 (by decide) h6_sets rfl (v := .ref qa1) rfl dX6_init_96 ?_
                                                              refine zz_iconst 99 X.1 (v := nI 2) dX6_init_99 rfl ?_
                                                              refine zl_aald 100 X 1 4 rfl rfl (Nat.le_of_ble_eq_true rfl) (by decide) (v := .ref qn6) rfl dX6_init_100 ?_
                                                              refine zz_iload 101 X.1 0 dX6_init_101 rfl ?_
                                                              refine zl_callQ2 103 X hml hA 6 7 (q := qn6) (u := ui7) (s0 := 2) (hs := (hC2 9)) (hs1 := (hC2 10)) rfl rfl (As := [.int (nI 127)]) (fun _ => 0) (fun _ _ => 0) (fun _ _ => 0) (fun K h => kq_X0_includeOne l 2 D C K h _ _ _ _ 127 (by decide) (by decide)) gX6_init_X0_includeOne rfl ⟨rfl, rfl⟩ yd_X0_includeOne ⟨Nat.le_of_ble_eq_true rfl, Nat.le_of_ble_eq_true rfl⟩ rfl rfl (Nat.le_of_ble_eq_true rfl) ⟨Nat.le_of_ble_eq_true rfl, Nat.le_of_ble_eq_true rfl⟩ dX6_init_103 ?_
                                                              refine zz_world (P' := (LPw (zz_A (fun q => q = h0) s.heap.size) D [(h0, .inr (6, [.ref qa1, .null, .null, .null, .int 0, .int 0, .int 0])), (qa1, .inl (C 4, 8, .inr (.inr (.inr (.inr (rf [qn2, qn4, qn6, qn8, qn10, qn12, qn14, qn16])))))), (qn2, .inr (0, [.ref ui3])), (ui3, .inl (C 2, 16, .inr (.inl (WH hA1 0)))), (qn4, .inr (0, [.ref ui5])), (ui5, .inl (C 2, 16, .inr (.inl (WH (hB 10) 1)))), (qn6, .inr (0, [.ref ui7])), (ui7, .inl (C 2, 16, .inr (.inl (WH (hC2 10) 2)))), (qn8, .inr (0, [.ref ui9])), (ui9, .inl (C 2, 16, .inr (.inl (WH hZ 3)))), (qn10, .inr (0, [.ref ui11])), (ui11, .inl (C 2, 16, .inr (.inl (WH hZ 4)))), (qn12, .inr (0, [.ref ui13])), (ui13, .inl (C 2, 16, .inr (.inl (WH hZ 5)))), (qn14, .inr (0, [.ref ui15])), (ui15, .inl (C 2, 16, .inr (.inl (WH hZ 6)))), (qn16, .inr (0, [.ref ui17])), (ui17, .inl (C 2, 16, .inr (.inl (WH hZ 7))))])) (fun _ h => h) ?_
                                                              refine zz_iinc 106 X.1 1 (v := (nI 10)) (lv' := [(3, .int (nI 10)), (4, .int (nI 127)), (2, .int (nI 11)), (1, .ref tb), (0, .ref h0)]) dX6_init_106 rfl (nI_add _ _) (by decide) rfl ?_
                                                              refine zz_goto 109 85 X.1 dX6_init_109 (by decide) ?_
                                                              refine zz_iload_n 85 X.1 0 dX6_init_85 rfl ?_
                                                              refine zz_iload_n 86 X.1 2 dX6_init_86 rfl ?_
                                                              refine zz_icmp_ge 87 112 X.1 (nI_toInt (by omega)) (nI_toInt (by omega)) dX6_init_87 (by decide) (fun h87 => ?_) (fun h87 => ?_)
                                                              · exfalso; omega
                                                              · skip
                                                                refine zz_aload_n 90 X.1 3 dX6_init_90 rfl ?_
                                                                refine zz_iload_n 91 X.1 0 dX6_init_91 rfl ?_
                                                                refine zl_tia 92 X hT6 (i := 10) (Nat.le_of_ble_eq_true rfl) (by decide) (v := .int (nI 128)) rfl dX6_init_92 ?_
                                                                refine zz_istore 93 X.1 (lv' := [(4, .int (nI 128)), (3, .int (nI 10)), (2, .int (nI 11)), (1, .ref tb), (0, .ref h0)]) dX6_init_93 (by decide) rfl ?_
                                                                refine zz_aload_n 95 X.1 4 dX6_init_95 rfl ?_
                                                                refine zl_get 96 X h6_u6 rfl 0 rfl 0 (by decide) h6_sets rfl (v := .ref qa1) rfl dX6_init_96 ?_
                                                                refine zz_iconst 99 X.1 (v := nI 2) dX6_init_99 rfl ?_
                                                                refine zl_aald 100 X 1 4 rfl rfl (Nat.le_of_ble_eq_true rfl) (by decide) (v := .ref qn6) rfl dX6_init_100 ?_
                                                                refine zz_iload 101 X.1 0 dX6_init_101 rfl ?_
                                                                refine zl_callQ2 103 X hml hA 6 7 (q := qn6) (u := ui7) (s0 := 2) (hs := (hC2 10)) (hs1 := (hC2 11)) rfl rfl (As := [.int (nI 128)]) (fun _ => 0) (fun _ _ => 0) (fun _ _ => 0) (fun K h => kq_X0_includeOne l 2 D C K h _ _ _ _ 128 (by decide) (by decide)) gX6_init_X0_includeOne rfl ⟨rfl, rfl⟩ yd_X0_includeOne ⟨Nat.le_of_ble_eq_true rfl, Nat.le_of_ble_eq_true rfl⟩ rfl rfl (Nat.le_of_ble_eq_true rfl) ⟨Nat.le_of_ble_eq_true rfl, Nat.le_of_ble_eq_true rfl⟩ dX6_init_103 ?_
                                                                refine zz_world (P' := (LPw (zz_A (fun q => q = h0) s.heap.size) D [(h0, .inr (6, [.ref qa1, .null, .null, .null, .int 0, .int 0, .int 0])), (qa1, .inl (C 4, 8, .inr (.inr (.inr (.inr (rf [qn2, qn4, qn6, qn8, qn10, qn12, qn14, qn16])))))), (qn2, .inr (0, [.ref ui3])), (ui3, .inl (C 2, 16, .inr (.inl (WH hA1 0)))), (qn4, .inr (0, [.ref ui5])), (ui5, .inl (C 2, 16, .inr (.inl (WH (hB 10) 1)))), (qn6, .inr (0, [.ref ui7])), (ui7, .inl (C 2, 16, .inr (.inl (WH (hC2 11) 2)))), (qn8, .inr (0, [.ref ui9])), (ui9, .inl (C 2, 16, .inr (.inl (WH hZ 3)))), (qn10, .inr (0, [.ref ui11])), (ui11, .inl (C 2, 16, .inr (.inl (WH hZ 4)))), (qn12, .inr (0, [.ref ui13])), (ui13, .inl (C 2, 16, .inr (.inl (WH hZ 5)))), (qn14, .inr (0, [.ref ui15])), (ui15, .inl (C 2, 16, .inr (.inl (WH hZ 6)))), (qn16, .inr (0, [.ref ui17])), (ui17, .inl (C 2, 16, .inr (.inl (WH hZ 7))))])) (fun _ h => h) ?_
                                                                refine zz_iinc 106 X.1 1 (v := (nI 11)) (lv' := [(3, .int (nI 11)), (4, .int (nI 128)), (2, .int (nI 11)), (1, .ref tb), (0, .ref h0)]) dX6_init_106 rfl (nI_add _ _) (by decide) rfl ?_
                                                                refine zz_goto 109 85 X.1 dX6_init_109 (by decide) ?_
                                                                refine zz_iload_n 85 X.1 0 dX6_init_85 rfl ?_
                                                                refine zz_iload_n 86 X.1 2 dX6_init_86 rfl ?_
                                                                refine zz_icmp_ge 87 112 X.1 (nI_toInt (by omega)) (nI_toInt (by omega)) dX6_init_87 (by decide) (fun h87 => ?_) (fun h87 => ?_)
                                                                · skip
                                                                  refine zz_aload_n 112 X.1 4 dX6_init_112 rfl ?_
                                                                  refine zl_new 113 X hA (by decide +kernel) tyX3 tyX3_ok (by decide +kernel) (by decide +kernel) (by decide +kernel) (ci := 3) rfl (fs := [.null, .int 0]) (by decide +kernel) ⟨Nat.le_of_ble_eq_true rfl, Nat.le_of_ble_eq_true rfl⟩ dX6_init_113 ?_
                                                                  intro qn18
                                                                  refine zz_world (P' := (LPw (zz_A (fun q => q = h0) s.heap.size) D [(h0, .inr (6, [.ref qa1, .null, .null, .null, .int 0, .int 0, .int 0])), (qa1, .inl (C 4, 8, .inr (.inr (.inr (.inr (rf [qn2, qn4, qn6, qn8, qn10, qn12, qn14, qn16])))))), (qn2, .inr (0, [.ref ui3])), (ui3, .inl (C 2, 16, .inr (.inl (WH hA1 0)))), (qn4, .inr (0, [.ref ui5])), (ui5, .inl (C 2, 16, .inr (.inl (WH (hB 10) 1)))), (qn6, .inr (0, [.ref ui7])), (ui7, .inl (C 2, 16, .inr (.inl (WH (hC2 11) 2)))), (qn8, .inr (0, [.ref ui9])), (ui9, .inl (C 2, 16, .inr (.inl (WH hZ 3)))), (qn10, .inr (0, [.ref ui11])), (ui11, .inl (C 2, 16, .inr (.inl (WH hZ 4)))), (qn12, .inr (0, [.ref ui13])), (ui13, .inl (C 2, 16, .inr (.inl (WH hZ 5)))), (qn14, .inr (0, [.ref ui15])), (ui15, .inl (C 2, 16, .inr (.inl (WH hZ 6)))), (qn16, .inr (0, [.ref ui17])), (ui17, .inl (C 2, 16, .inr (.inl (WH hZ 7)))), (qn18, .inr (3, [.null, .int 0]))])) (fun _ h => h) ?_
                                                                  refine zz_dup 116 X.1 dX6_init_116 rfl ?_
                                                                  refine zz_world (P' := LPw (zz_A (fun q => q = h0) s.heap.size) D ([(h0, .inr (6, [.ref qa1, .null, .null, .null, .int 0, .int 0, .int 0])), (qa1, .inl (C 4, 8, .inr (.inr (.inr (.inr (rf [qn2, qn4, qn6, qn8, qn10, qn12, qn14, qn16])))))), (qn2, .inr (0, [.ref ui3])), (ui3, .inl (C 2, 16, .inr (.inl (WH hA1 0)))), (qn4, .inr (0, [.ref ui5])), (ui5, .inl (C 2, 16, .inr (.inl (WH (hB 10) 1)))), (qn6, .inr (0, [.ref ui7])), (ui7, .inl (C 2, 16, .inr (.inl (WH (hC2 11) 2)))), (qn8, .inr (0, [.ref ui9])), (ui9, .inl (C 2, 16, .inr (.inl (WH hZ 3)))), (qn10, .inr (0, [.ref ui11])), (ui11, .inl (C 2, 16, .inr (.inl (WH hZ 4)))), (qn12, .inr (0, [.ref ui13])), (ui13, .inl (C 2, 16, .inr (.inl (WH hZ 5)))), (qn14, .inr (0, [.ref ui15])), (ui15, .inl (C 2, 16, .inr (.inl (WH hZ 6)))), (qn16, .inr (0, [.ref ui17])), (ui17, .inl (C 2, 16, .inr (.inl (WH hZ 7))))] ++ [(qn18, .inr (3, [.null, .int 0]))])) (fun _ h => h) ?_
                                                                  refine zl_callIN 117 X hml hA (kt_X3_init l D C qn18) ⟨va_cnB 0 X.2.1 gX6_init_X3_init_n30 rfl rfl rfl hN.2.2.2.1 (X.2.1 (.initialized RX3) (by decide +kernel)) (by decide +kernel) ⟨Nat.le_of_ble_eq_true rfl, Nat.le_of_ble_eq_true rfl⟩, rfl, X.2.1 (.instanceMethod yX3_init) (by decide +kernel)⟩ (Nat.le_of_ble_eq_true rfl) ⟨Nat.le_of_ble_eq_true rfl, Nat.le_of_ble_eq_true rfl⟩ dX6_init_117 ?_
                                                                  intro ui19
                                                                  refine zz_world (P' := (LPw (zz_A (fun q => q = h0) s.heap.size) D [(h0, .inr (6, [.ref qa1, .null, .null, .null, .int 0, .int 0, .int 0])), (qa1, .inl (C 4, 8, .inr (.inr (.inr (.inr (rf [qn2, qn4, qn6, qn8, qn10, qn12, qn14, qn16])))))), (qn2, .inr (0, [.ref ui3])), (ui3, .inl (C 2, 16, .inr (.inl (WH hA1 0)))), (qn4, .inr (0, [.ref ui5])), (ui5, .inl (C 2, 16, .inr (.inl (WH (hB 10) 1)))), (qn6, .inr (0, [.ref ui7])), (ui7, .inl (C 2, 16, .inr (.inl (WH (hC2 11) 2)))), (qn8, .inr (0, [.ref ui9])), (ui9, .inl (C 2, 16, .inr (.inl (WH hZ 3)))), (qn10, .inr (0, [.ref ui11])), (ui11, .inl (C 2, 16, .inr (.inl (WH hZ 4)))), (qn12, .inr (0, [.ref ui13])), (ui13, .inl (C 2, 16, .inr (.inl (WH hZ 5)))), (qn14, .inr (0, [.ref ui15])), (ui15, .inl (C 2, 16, .inr (.inl (WH hZ 6)))), (qn16, .inr (0, [.ref ui17])), (ui17, .inl (C 2, 16, .inr (.inl (WH hZ 7)))), (qn18, .inr (3, [.ref ui19, .int (nI 0)])), (ui19, .inl (C 0, 400, .inl (fun _ => 0)))])) (fun _ h => h) ?_
                                                                  refine zl_putF 120 X hin2 h6_u6 tyX6 tyX6_ok nmX6 rfl 0 rfl 1 (by decide) (by decide +kernel) rfl rfl (v := .ref qn18) rfl rfl rfl (Nat.le_of_ble_eq_true rfl) dX6_init_120 ?_
                                                                  refine zz_world (P' := (LPw (zz_A (fun q => q = h0) s.heap.size) D [(h0, .inr (6, [.ref qa1, .ref qn18, .null, .null, .int 0, .int 0, .int 0])), (qa1, .inl (C 4, 8, .inr (.inr (.inr (.inr (rf [qn2, qn4, qn6, qn8, qn10, qn12, qn14, qn16])))))), (qn2, .inr (0, [.ref ui3])), (ui3, .inl (C 2, 16, .inr (.inl (WH hA1 0)))), (qn4, .inr (0, [.ref ui5])), (ui5, .inl (C 2, 16, .inr (.inl (WH (hB 10) 1)))), (qn6, .inr (0, [.ref ui7])), (ui7, .inl (C 2, 16, .inr (.inl (WH (hC2 11) 2)))), (qn8, .inr (0, [.ref ui9])), (ui9, .inl (C 2, 16, .inr (.inl (WH hZ 3)))), (qn10, .inr (0, [.ref ui11])), (ui11, .inl (C 2, 16, .inr (.inl (WH hZ 4)))), (qn12, .inr (0, [.ref ui13])), (ui13, .inl (C 2, 16, .inr (.inl (WH hZ 5)))), (qn14, .inr (0, [.ref ui15])), (ui15, .inl (C 2, 16, .inr (.inl (WH hZ 6)))), (qn16, .inr (0, [.ref ui17])), (ui17, .inl (C 2, 16, .inr (.inl (WH hZ 7)))), (qn18, .inr (3, [.ref ui19, .int (nI 0)])), (ui19, .inl (C 0, 400, .inl (fun _ => 0)))])) (fun _ h => h) ?_
                                                                  refine zz_aload_n 123 X.1 4 dX6_init_123 rfl ?_
                                                                  refine zl_new 124 X hA (by decide +kernel) tyX1 tyX1_ok (by decide +kernel) (by decide +kernel) (by decide +kernel) (ci := 1) rfl (fs := [.null, .null, .null, .int 0, .int 0]) (by decide +kernel) ⟨Nat.le_of_ble_eq_true rfl, Nat.le_of_ble_eq_true rfl⟩ dX6_init_124 ?_
                                                                  intro qn20
                                                                  refine zz_world (P' := (LPw (zz_A (fun q => q = h0) s.heap.size) D [(h0, .inr (6, [.ref qa1, .ref qn18, .null, .null, .int 0, .int 0, .int 0])), (qa1, .inl (C 4, 8, .inr (.inr (.inr (.inr (rf [qn2, qn4, qn6, qn8, qn10, qn12, qn14, qn16])))))), (qn2, .inr (0, [.ref ui3])), (ui3, .inl (C 2, 16, .inr (.inl (WH hA1 0)))), (qn4, .inr (0, [.ref ui5])), (ui5, .inl (C 2, 16, .inr (.inl (WH (hB 10) 1)))), (qn6, .inr (0, [.ref ui7])), (ui7, .inl (C 2, 16, .inr (.inl (WH (hC2 11) 2)))), (qn8, .inr (0, [.ref ui9])), (ui9, .inl (C 2, 16, .inr (.inl (WH hZ 3)))), (qn10, .inr (0, [.ref ui11])), (ui11, .inl (C 2, 16, .inr (.inl (WH hZ 4)))), (qn12, .inr (0, [.ref ui13])), (ui13, .inl (C 2, 16, .inr (.inl (WH hZ 5)))), (qn14, .inr (0, [.ref ui15])), (ui15, .inl (C 2, 16, .inr (.inl (WH hZ 6)))), (qn16, .inr (0, [.ref ui17])), (ui17, .inl (C 2, 16, .inr (.inl (WH hZ 7)))), (qn18, .inr (3, [.ref ui19, .int (nI 0)])), (ui19, .inl (C 0, 400, .inl (fun _ => 0))), (qn20, .inr (1, [.null, .null, .null, .int 0, .int 0]))])) (fun _ h => h) ?_
                                                                  refine zz_dup 127 X.1 dX6_init_127 rfl ?_
                                                                  refine zz_world (P' := LPw (zz_A (fun q => q = h0) s.heap.size) D ([(h0, .inr (6, [.ref qa1, .ref qn18, .null, .null, .int 0, .int 0, .int 0])), (qa1, .inl (C 4, 8, .inr (.inr (.inr (.inr (rf [qn2, qn4, qn6, qn8, qn10, qn12, qn14, qn16])))))), (qn2, .inr (0, [.ref ui3])), (ui3, .inl (C 2, 16, .inr (.inl (WH hA1 0)))), (qn4, .inr (0, [.ref ui5])), (ui5, .inl (C 2, 16, .inr (.inl (WH (hB 10) 1)))), (qn6, .inr (0, [.ref ui7])), (ui7, .inl (C 2, 16, .inr (.inl (WH (hC2 11) 2)))), (qn8, .inr (0, [.ref ui9])), (ui9, .inl (C 2, 16, .inr (.inl (WH hZ 3)))), (qn10, .inr (0, [.ref ui11])), (ui11, .inl (C 2, 16, .inr (.inl (WH hZ 4)))), (qn12, .inr (0, [.ref ui13])), (ui13, .inl (C 2, 16, .inr (.inl (WH hZ 5)))), (qn14, .inr (0, [.ref ui15])), (ui15, .inl (C 2, 16, .inr (.inl (WH hZ 6)))), (qn16, .inr (0, [.ref ui17])), (ui17, .inl (C 2, 16, .inr (.inl (WH hZ 7)))), (qn18, .inr (3, [.ref ui19, .int (nI 0)])), (ui19, .inl (C 0, 400, .inl (fun _ => 0)))] ++ [(qn20, .inr (1, [.null, .null, .null, .int 0, .int 0]))])) (fun _ h => h) ?_
                                                                  refine zl_callIX NX1 (fun U g mk a h => h.calling g mk a) (fun U hW => hN.1.warm hW) 128 X hml hA (kt_X1_init l D C qn20) (cwI 0 X.2.1 gX6_init_X1_init rfl rfl rfl (X.2.1 (.initialized RX1) (by decide +kernel)) (X.2.1 (.methodLink RX6 37 yX1_init) (by decide +kernel)) (X.2.1 (.instanceMethod yX1_init) (by decide +kernel)) rfl (by decide +kernel) ⟨Nat.le_of_ble_eq_true rfl, Nat.le_of_ble_eq_true rfl⟩) (Nat.le_of_ble_eq_true rfl) ⟨Nat.le_of_ble_eq_true rfl, Nat.le_of_ble_eq_true rfl⟩ dX6_init_128 ?_
                                                                  rintro ⟨v1, ⟨v2, v3, v4⟩, v5, v6, aq⟩
                                                                  obtain ⟨tl, htl⟩ : ∃ tl : va_W, tl = (List.range 100).map (fun j => (aq j, .inr (2, [.int 0, .int 0, .int 0, .int 0]))) := ⟨_, rfl⟩
                                                                  refine zz_world (P' := (LPw (zz_A (fun q => q = h0) s.heap.size) D ([(h0, .inr (6, [.ref qa1, .ref qn18, .null, .null, .int 0, .int 0, .int 0])), (qa1, .inl (C 4, 8, .inr (.inr (.inr (.inr (rf [qn2, qn4, qn6, qn8, qn10, qn12, qn14, qn16])))))), (qn2, .inr (0, [.ref ui3])), (ui3, .inl (C 2, 16, .inr (.inl (WH hA1 0)))), (qn4, .inr (0, [.ref ui5])), (ui5, .inl (C 2, 16, .inr (.inl (WH (hB 10) 1)))), (qn6, .inr (0, [.ref ui7])), (ui7, .inl (C 2, 16, .inr (.inl (WH (hC2 11) 2)))), (qn8, .inr (0, [.ref ui9])), (ui9, .inl (C 2, 16, .inr (.inl (WH hZ 3)))), (qn10, .inr (0, [.ref ui11])), (ui11, .inl (C 2, 16, .inr (.inl (WH hZ 4)))), (qn12, .inr (0, [.ref ui13])), (ui13, .inl (C 2, 16, .inr (.inl (WH hZ 5)))), (qn14, .inr (0, [.ref ui15])), (ui15, .inl (C 2, 16, .inr (.inl (WH hZ 6)))), (qn16, .inr (0, [.ref ui17])), (ui17, .inl (C 2, 16, .inr (.inl (WH hZ 7)))), (qn18, .inr (3, [.ref ui19, .int (nI 0)])), (ui19, .inl (C 0, 400, .inl (fun _ => 0))), (qn20, .inr (1, [.ref v1, .ref v5, .ref v6, .int (nI 0), .int (nI 0)])), (v1, .inr (5, [.ref v2, .ref v3, .ref v4, .int (nI 0), .int (nI 0), .int (nI 0)])), (v2, .inl (C 1, 400, .inl (fun _ => 0))), (v3, .inl (C 1, 400, .inl (fun _ => 0))), (v4, .inl (C 1, 400, .inl (fun _ => 0))), (v5, .inl (C 5, 100, .inr (.inr (.inr (.inr (fil aq 100)))))), (v6, .inl (C 1, 400, .inl (fun _ => 0)))] ++ tl))) (fun _ h => by unfold wI_X1 at h; rw [← List.append_assoc, ← htl] at h; exact h) ?_
                                                                  refine zl_putF 131 X hin2 h6_u6 tyX6 tyX6_ok nmX6 rfl 0 rfl 2 (by decide) (by decide +kernel) rfl rfl (v := .ref qn20) rfl rfl rfl (Nat.le_of_ble_eq_true rfl) dX6_init_131 ?_
                                                                  refine zz_world (P' := (LPw (zz_A (fun q => q = h0) s.heap.size) D ([(h0, .inr (6, [.ref qa1, .ref qn18, .ref qn20, .null, .int 0, .int 0, .int 0])), (qa1, .inl (C 4, 8, .inr (.inr (.inr (.inr (rf [qn2, qn4, qn6, qn8, qn10, qn12, qn14, qn16])))))), (qn2, .inr (0, [.ref ui3])), (ui3, .inl (C 2, 16, .inr (.inl (WH hA1 0)))), (qn4, .inr (0, [.ref ui5])), (ui5, .inl (C 2, 16, .inr (.inl (WH (hB 10) 1)))), (qn6, .inr (0, [.ref ui7])), (ui7, .inl (C 2, 16, .inr (.inl (WH (hC2 11) 2)))), (qn8, .inr (0, [.ref ui9])), (ui9, .inl (C 2, 16, .inr (.inl (WH hZ 3)))), (qn10, .inr (0, [.ref ui11])), (ui11, .inl (C 2, 16, .inr (.inl (WH hZ 4)))), (qn12, .inr (0, [.ref ui13])), (ui13, .inl (C 2, 16, .inr (.inl (WH hZ 5)))), (qn14, .inr (0, [.ref ui15])), (ui15, .inl (C 2, 16, .inr (.inl (WH hZ 6)))), (qn16, .inr (0, [.ref ui17])), (ui17, .inl (C 2, 16, .inr (.inl (WH hZ 7)))), (qn18, .inr (3, [.ref ui19, .int (nI 0)])), (ui19, .inl (C 0, 400, .inl (fun _ => 0))), (qn20, .inr (1, [.ref v1, .ref v5, .ref v6, .int (nI 0), .int (nI 0)])), (v1, .inr (5, [.ref v2, .ref v3, .ref v4, .int (nI 0), .int (nI 0), .int (nI 0)])), (v2, .inl (C 1, 400, .inl (fun _ => 0))), (v3, .inl (C 1, 400, .inl (fun _ => 0))), (v4, .inl (C 1, 400, .inl (fun _ => 0))), (v5, .inl (C 5, 100, .inr (.inr (.inr (.inr (fil aq 100)))))), (v6, .inl (C 1, 400, .inl (fun _ => 0)))] ++ tl))) (fun _ h => h) ?_
                                                                  refine zz_aload_n 134 X.1 4 dX6_init_134 rfl ?_
                                                                  refine zl_new 135 X hA (by decide +kernel) tyX4 tyX4_ok (by decide +kernel) (by decide +kernel) (by decide +kernel) (ci := 4) rfl (fs := [.null, .int 0]) (by decide +kernel) ⟨Nat.le_of_ble_eq_true rfl, Nat.le_of_ble_eq_true rfl⟩ dX6_init_135 ?_
                                                                  intro qn21
                                                                  refine zz_world (P' := (LPw (zz_A (fun q => q = h0) s.heap.size) D (([(h0, .inr (6, [.ref qa1, .ref qn18, .ref qn20, .null, .int 0, .int 0, .int 0])), (qa1, .inl (C 4, 8, .inr (.inr (.inr (.inr (rf [qn2, qn4, qn6, qn8, qn10, qn12, qn14, qn16])))))), (qn2, .inr (0, [.ref ui3])), (ui3, .inl (C 2, 16, .inr (.inl (WH hA1 0)))), (qn4, .inr (0, [.ref ui5])), (ui5, .inl (C 2, 16, .inr (.inl (WH (hB 10) 1)))), (qn6, .inr (0, [.ref ui7])), (ui7, .inl (C 2, 16, .inr (.inl (WH (hC2 11) 2)))), (qn8, .inr (0, [.ref ui9])), (ui9, .inl (C 2, 16, .inr (.inl (WH hZ 3)))), (qn10, .inr (0, [.ref ui11])), (ui11, .inl (C 2, 16, .inr (.inl (WH hZ 4)))), (qn12, .inr (0, [.ref ui13])), (ui13, .inl (C 2, 16, .inr (.inl (WH hZ 5)))), (qn14, .inr (0, [.ref ui15])), (ui15, .inl (C 2, 16, .inr (.inl (WH hZ 6)))), (qn16, .inr (0, [.ref ui17])), (ui17, .inl (C 2, 16, .inr (.inl (WH hZ 7)))), (qn18, .inr (3, [.ref ui19, .int (nI 0)])), (ui19, .inl (C 0, 400, .inl (fun _ => 0))), (qn20, .inr (1, [.ref v1, .ref v5, .ref v6, .int (nI 0), .int (nI 0)])), (v1, .inr (5, [.ref v2, .ref v3, .ref v4, .int (nI 0), .int (nI 0), .int (nI 0)])), (v2, .inl (C 1, 400, .inl (fun _ => 0))), (v3, .inl (C 1, 400, .inl (fun _ => 0))), (v4, .inl (C 1, 400, .inl (fun _ => 0))), (v5, .inl (C 5, 100, .inr (.inr (.inr (.inr (fil aq 100)))))), (v6, .inl (C 1, 400, .inl (fun _ => 0)))] ++ tl) ++ [(qn21, .inr (4, [.null, .int 0]))]))) (fun _ h => h) ?_
                                                                  refine zz_dup 138 X.1 dX6_init_138 rfl ?_
                                                                  refine zl_callIN 139 X hml hA (kt_X4_init l D C qn21) ⟨va_cnB 0 X.2.1 gX6_init_X4_init_n44 rfl rfl rfl hN.2.2.2.2.1 (X.2.1 (.initialized RX4) (by decide +kernel)) (by decide +kernel) ⟨Nat.le_of_ble_eq_true rfl, Nat.le_of_ble_eq_true rfl⟩, rfl, X.2.1 (.instanceMethod yX4_init) (by decide +kernel)⟩ (Nat.le_of_ble_eq_true rfl) ⟨Nat.le_of_ble_eq_true rfl, Nat.le_of_ble_eq_true rfl⟩ dX6_init_139 ?_
                                                                  intro ui22
                                                                  refine zz_world (P' := (LPw (zz_A (fun q => q = h0) s.heap.size) D (([(h0, .inr (6, [.ref qa1, .ref qn18, .ref qn20, .null, .int 0, .int 0, .int 0])), (qa1, .inl (C 4, 8, .inr (.inr (.inr (.inr (rf [qn2, qn4, qn6, qn8, qn10, qn12, qn14, qn16])))))), (qn2, .inr (0, [.ref ui3])), (ui3, .inl (C 2, 16, .inr (.inl (WH hA1 0)))), (qn4, .inr (0, [.ref ui5])), (ui5, .inl (C 2, 16, .inr (.inl (WH (hB 10) 1)))), (qn6, .inr (0, [.ref ui7])), (ui7, .inl (C 2, 16, .inr (.inl (WH (hC2 11) 2)))), (qn8, .inr (0, [.ref ui9])), (ui9, .inl (C 2, 16, .inr (.inl (WH hZ 3)))), (qn10, .inr (0, [.ref ui11])), (ui11, .inl (C 2, 16, .inr (.inl (WH hZ 4)))), (qn12, .inr (0, [.ref ui13])), (ui13, .inl (C 2, 16, .inr (.inl (WH hZ 5)))), (qn14, .inr (0, [.ref ui15])), (ui15, .inl (C 2, 16, .inr (.inl (WH hZ 6)))), (qn16, .inr (0, [.ref ui17])), (ui17, .inl (C 2, 16, .inr (.inl (WH hZ 7)))), (qn18, .inr (3, [.ref ui19, .int (nI 0)])), (ui19, .inl (C 0, 400, .inl (fun _ => 0))), (qn20, .inr (1, [.ref v1, .ref v5, .ref v6, .int (nI 0), .int (nI 0)])), (v1, .inr (5, [.ref v2, .ref v3, .ref v4, .int (nI 0), .int (nI 0), .int (nI 0)])), (v2, .inl (C 1, 400, .inl (fun _ => 0))), (v3, .inl (C 1, 400, .inl (fun _ => 0))), (v4, .inl (C 1, 400, .inl (fun _ => 0))), (v5, .inl (C 5, 100, .inr (.inr (.inr (.inr (fil aq 100)))))), (v6, .inl (C 1, 400, .inl (fun _ => 0)))] ++ tl) ++ [(qn21, .inr (4, [.ref ui22, .int (nI 0)])), (ui22, .inl (C 0, 5034, .inl (fun _ => 0)))]))) (fun _ h => h) ?_
                                                                  refine zl_putF 142 X hin2 h6_u6 tyX6 tyX6_ok nmX6 rfl 0 rfl 3 (by decide) (by decide +kernel) rfl rfl (v := .ref qn21) rfl rfl rfl (Nat.le_of_ble_eq_true rfl) dX6_init_142 ?_
                                                                  refine zz_world (P' := (LPw (zz_A (fun q => q = h0) s.heap.size) D (([(h0, .inr (6, [.ref qa1, .ref qn18, .ref qn20, .ref qn21, .int 0, .int 0, .int 0])), (qa1, .inl (C 4, 8, .inr (.inr (.inr (.inr (rf [qn2, qn4, qn6, qn8, qn10, qn12, qn14, qn16])))))), (qn2, .inr (0, [.ref ui3])), (ui3, .inl (C 2, 16, .inr (.inl (WH hA1 0)))), (qn4, .inr (0, [.ref ui5])), (ui5, .inl (C 2, 16, .inr (.inl (WH (hB 10) 1)))), (qn6, .inr (0, [.ref ui7])), (ui7, .inl (C 2, 16, .inr (.inl (WH (hC2 11) 2)))), (qn8, .inr (0, [.ref ui9])), (ui9, .inl (C 2, 16, .inr (.inl (WH hZ 3)))), (qn10, .inr (0, [.ref ui11])), (ui11, .inl (C 2, 16, .inr (.inl (WH hZ 4)))), (qn12, .inr (0, [.ref ui13])), (ui13, .inl (C 2, 16, .inr (.inl (WH hZ 5)))), (qn14, .inr (0, [.ref ui15])), (ui15, .inl (C 2, 16, .inr (.inl (WH hZ 6)))), (qn16, .inr (0, [.ref ui17])), (ui17, .inl (C 2, 16, .inr (.inl (WH hZ 7)))), (qn18, .inr (3, [.ref ui19, .int (nI 0)])), (ui19, .inl (C 0, 400, .inl (fun _ => 0))), (qn20, .inr (1, [.ref v1, .ref v5, .ref v6, .int (nI 0), .int (nI 0)])), (v1, .inr (5, [.ref v2, .ref v3, .ref v4, .int (nI 0), .int (nI 0), .int (nI 0)])), (v2, .inl (C 1, 400, .inl (fun _ => 0))), (v3, .inl (C 1, 400, .inl (fun _ => 0))), (v4, .inl (C 1, 400, .inl (fun _ => 0))), (v5, .inl (C 5, 100, .inr (.inr (.inr (.inr (fil aq 100)))))), (v6, .inl (C 1, 400, .inl (fun _ => 0)))] ++ tl) ++ [(qn21, .inr (4, [.ref ui22, .int (nI 0)])), (ui22, .inl (C 0, 5034, .inl (fun _ => 0)))]))) (fun _ h => h) ?_
                                                                  refine zz_aload_n 145 X.1 4 dX6_init_145 rfl ?_
                                                                  refine zz_iconst 146 X.1 (v := (-1)) dX6_init_146 (by decide) ?_
                                                                  refine zl_put 147 X h6_u6 tyX6 tyX6_ok nmX6 rfl 0 rfl 4 (by decide) (by decide +kernel) rfl rfl (v := .int (-1)) rfl rfl rfl (Nat.le_of_ble_eq_true rfl) dX6_init_147 ?_
                                                                  refine zz_world (P' := (LPw (zz_A (fun q => q = h0) s.heap.size) D (([(h0, .inr (6, [.ref qa1, .ref qn18, .ref qn20, .ref qn21, .int (-1), .int 0, .int 0])), (qa1, .inl (C 4, 8, .inr (.inr (.inr (.inr (rf [qn2, qn4, qn6, qn8, qn10, qn12, qn14, qn16])))))), (qn2, .inr (0, [.ref ui3])), (ui3, .inl (C 2, 16, .inr (.inl (WH hA1 0)))), (qn4, .inr (0, [.ref ui5])), (ui5, .inl (C 2, 16, .inr (.inl (WH (hB 10) 1)))), (qn6, .inr (0, [.ref ui7])), (ui7, .inl (C 2, 16, .inr (.inl (WH (hC2 11) 2)))), (qn8, .inr (0, [.ref ui9])), (ui9, .inl (C 2, 16, .inr (.inl (WH hZ 3)))), (qn10, .inr (0, [.ref ui11])), (ui11, .inl (C 2, 16, .inr (.inl (WH hZ 4)))), (qn12, .inr (0, [.ref ui13])), (ui13, .inl (C 2, 16, .inr (.inl (WH hZ 5)))), (qn14, .inr (0, [.ref ui15])), (ui15, .inl (C 2, 16, .inr (.inl (WH hZ 6)))), (qn16, .inr (0, [.ref ui17])), (ui17, .inl (C 2, 16, .inr (.inl (WH hZ 7)))), (qn18, .inr (3, [.ref ui19, .int (nI 0)])), (ui19, .inl (C 0, 400, .inl (fun _ => 0))), (qn20, .inr (1, [.ref v1, .ref v5, .ref v6, .int (nI 0), .int (nI 0)])), (v1, .inr (5, [.ref v2, .ref v3, .ref v4, .int (nI 0), .int (nI 0), .int (nI 0)])), (v2, .inl (C 1, 400, .inl (fun _ => 0))), (v3, .inl (C 1, 400, .inl (fun _ => 0))), (v4, .inl (C 1, 400, .inl (fun _ => 0))), (v5, .inl (C 5, 100, .inr (.inr (.inr (.inr (fil aq 100)))))), (v6, .inl (C 1, 400, .inl (fun _ => 0)))] ++ tl) ++ [(qn21, .inr (4, [.ref ui22, .int (nI 0)])), (ui22, .inl (C 0, 5034, .inl (fun _ => 0)))]))) (fun _ h => h) ?_
                                                                  refine zz_aload_n 150 X.1 4 dX6_init_150 rfl ?_
                                                                  refine zz_iconst 151 X.1 (v := (-1)) dX6_init_151 (by decide) ?_
                                                                  refine zl_put 152 X h6_u6 tyX6 tyX6_ok nmX6 rfl 0 rfl 5 (by decide) (by decide +kernel) rfl rfl (v := .int (-1)) rfl rfl rfl (Nat.le_of_ble_eq_true rfl) dX6_init_152 ?_
                                                                  refine zz_world (P' := (LPw (zz_A (fun q => q = h0) s.heap.size) D (([(h0, .inr (6, [.ref qa1, .ref qn18, .ref qn20, .ref qn21, .int (-1), .int (-1), .int 0])), (qa1, .inl (C 4, 8, .inr (.inr (.inr (.inr (rf [qn2, qn4, qn6, qn8, qn10, qn12, qn14, qn16])))))), (qn2, .inr (0, [.ref ui3])), (ui3, .inl (C 2, 16, .inr (.inl (WH hA1 0)))), (qn4, .inr (0, [.ref ui5])), (ui5, .inl (C 2, 16, .inr (.inl (WH (hB 10) 1)))), (qn6, .inr (0, [.ref ui7])), (ui7, .inl (C 2, 16, .inr (.inl (WH (hC2 11) 2)))), (qn8, .inr (0, [.ref ui9])), (ui9, .inl (C 2, 16, .inr (.inl (WH hZ 3)))), (qn10, .inr (0, [.ref ui11])), (ui11, .inl (C 2, 16, .inr (.inl (WH hZ 4)))), (qn12, .inr (0, [.ref ui13])), (ui13, .inl (C 2, 16, .inr (.inl (WH hZ 5)))), (qn14, .inr (0, [.ref ui15])), (ui15, .inl (C 2, 16, .inr (.inl (WH hZ 6)))), (qn16, .inr (0, [.ref ui17])), (ui17, .inl (C 2, 16, .inr (.inl (WH hZ 7)))), (qn18, .inr (3, [.ref ui19, .int (nI 0)])), (ui19, .inl (C 0, 400, .inl (fun _ => 0))), (qn20, .inr (1, [.ref v1, .ref v5, .ref v6, .int (nI 0), .int (nI 0)])), (v1, .inr (5, [.ref v2, .ref v3, .ref v4, .int (nI 0), .int (nI 0), .int (nI 0)])), (v2, .inl (C 1, 400, .inl (fun _ => 0))), (v3, .inl (C 1, 400, .inl (fun _ => 0))), (v4, .inl (C 1, 400, .inl (fun _ => 0))), (v5, .inl (C 5, 100, .inr (.inr (.inr (.inr (fil aq 100)))))), (v6, .inl (C 1, 400, .inl (fun _ => 0)))] ++ tl) ++ [(qn21, .inr (4, [.ref ui22, .int (nI 0)])), (ui22, .inl (C 0, 5034, .inl (fun _ => 0)))]))) (fun _ h => h) ?_
                                                                  refine zz_aload_n 155 X.1 4 dX6_init_155 rfl ?_
                                                                  refine zz_iconst 156 X.1 (v := nI 0) dX6_init_156 rfl ?_
                                                                  refine zl_put 157 X h6_u6 tyX6 tyX6_ok nmX6 rfl 0 rfl 6 (by decide) (by decide +kernel) rfl rfl (v := .int (nI 0)) rfl rfl rfl (Nat.le_of_ble_eq_true rfl) dX6_init_157 ?_
                                                                  refine zz_world (P' := (LPw (zz_A (fun q => q = h0) s.heap.size) D (([(h0, .inr (6, [.ref qa1, .ref qn18, .ref qn20, .ref qn21, .int (-1), .int (-1), .int (nI 0)])), (qa1, .inl (C 4, 8, .inr (.inr (.inr (.inr (rf [qn2, qn4, qn6, qn8, qn10, qn12, qn14, qn16])))))), (qn2, .inr (0, [.ref ui3])), (ui3, .inl (C 2, 16, .inr (.inl (WH hA1 0)))), (qn4, .inr (0, [.ref ui5])), (ui5, .inl (C 2, 16, .inr (.inl (WH (hB 10) 1)))), (qn6, .inr (0, [.ref ui7])), (ui7, .inl (C 2, 16, .inr (.inl (WH (hC2 11) 2)))), (qn8, .inr (0, [.ref ui9])), (ui9, .inl (C 2, 16, .inr (.inl (WH hZ 3)))), (qn10, .inr (0, [.ref ui11])), (ui11, .inl (C 2, 16, .inr (.inl (WH hZ 4)))), (qn12, .inr (0, [.ref ui13])), (ui13, .inl (C 2, 16, .inr (.inl (WH hZ 5)))), (qn14, .inr (0, [.ref ui15])), (ui15, .inl (C 2, 16, .inr (.inl (WH hZ 6)))), (qn16, .inr (0, [.ref ui17])), (ui17, .inl (C 2, 16, .inr (.inl (WH hZ 7)))), (qn18, .inr (3, [.ref ui19, .int (nI 0)])), (ui19, .inl (C 0, 400, .inl (fun _ => 0))), (qn20, .inr (1, [.ref v1, .ref v5, .ref v6, .int (nI 0), .int (nI 0)])), (v1, .inr (5, [.ref v2, .ref v3, .ref v4, .int (nI 0), .int (nI 0), .int (nI 0)])), (v2, .inl (C 1, 400, .inl (fun _ => 0))), (v3, .inl (C 1, 400, .inl (fun _ => 0))), (v4, .inl (C 1, 400, .inl (fun _ => 0))), (v5, .inl (C 5, 100, .inr (.inr (.inr (.inr (fil aq 100)))))), (v6, .inl (C 1, 400, .inl (fun _ => 0)))] ++ tl) ++ [(qn21, .inr (4, [.ref ui22, .int (nI 0)])), (ui22, .inl (C 0, 5034, .inl (fun _ => 0)))]))) (fun _ h => h) ?_
                                                                  rw [← hQ]
                                                                  obtain ⟨K, e0, e1, e2, e3, e4, e5, e6, e7, e8, e9, e10, e11, e12, e20, e21, e22, e23, e24, e25, e26, e27, e30, e31, e32, e33, e34, e35, e36, e37, eU, eq⟩ : ∃ K : Nat → Nat, K 0 = h0 ∧ K 1 = qa1 ∧ K 2 = qn18 ∧ K 3 = ui19 ∧ K 4 = qn20 ∧ K 5 = v1 ∧ K 6 = v2 ∧ K 7 = v3 ∧ K 8 = v4 ∧ K 9 = v5 ∧ K 10 = v6 ∧ K 11 = qn21 ∧ K 12 = ui22 ∧ K 20 = qn2 ∧ K 21 = qn4 ∧ K 22 = qn6 ∧ K 23 = qn8 ∧ K 24 = qn10 ∧ K 25 = qn12 ∧ K 26 = qn14 ∧ K 27 = qn16 ∧ K 30 = ui3 ∧ K 31 = ui5 ∧ K 32 = ui7 ∧ K 33 = ui9 ∧ K 34 = ui11 ∧ K 35 = ui13 ∧ K 36 = ui15 ∧ K 37 = ui17 ∧ (∀ k, k < 100 → ¬ (k < 13 ∨ (20 ≤ k ∧ k < 28) ∨ (30 ≤ k ∧ k < 38)) → K k = h0) ∧ (fun n => K (100 + n)) = aq := ⟨fun j => if j < 100 then ([h0, qa1, qn18, ui19, qn20, v1, v2, v3, v4, v5, v6, qn21, ui22, h0, h0, h0, h0, h0, h0, h0, qn2, qn4, qn6, qn8, qn10, qn12, qn14, qn16, h0, h0, ui3, ui5, ui7, ui9, ui11, ui13, ui15, ui17] : List Nat).getD j h0 else aq (j - 100), rfl, rfl, rfl, rfl, rfl, rfl, rfl, rfl, rfl, rfl, rfl, rfl, rfl, rfl, rfl, rfl, rfl, rfl, rfl, rfl, rfl, rfl, rfl, rfl, rfl, rfl, rfl, rfl, rfl, fun k hk hu => by show (if k < 100 then ([h0, qa1, qn18, ui19, qn20, v1, v2, v3, v4, v5, v6, qn21, ui22, h0, h0, h0, h0, h0, h0, h0, qn2, qn4, qn6, qn8, qn10, qn12, qn14, qn16, h0, h0, ui3, ui5, ui7, ui9, ui11, ui13, ui15, ui17] : List Nat).getD k h0 else _) = _; rw [if_pos hk]; rcases (show k = 13 ∨ k = 14 ∨ k = 15 ∨ k = 16 ∨ k = 17 ∨ k = 18 ∨ k = 19 ∨ k = 28 ∨ k = 29 ∨ 38 ≤ k by omega) with rfl | rfl | rfl | rfl | rfl | rfl | rfl | rfl | rfl | h <;> first | rfl | (rw [List.getD_eq_getElem?_getD, List.getElem?_eq_none (by simpa using h)]; rfl), funext fun n => by show (if 100 + n < 100 then _ else aq (100 + n - 100)) = aq n; rw [if_neg (by omega), show 100 + n - 100 = n by omega]⟩
                                                                  subst e0
                                                                  subst e1
                                                                  subst e2
                                                                  subst e3
                                                                  subst e4
                                                                  subst e5
                                                                  subst e6
                                                                  subst e7
                                                                  subst e8
                                                                  subst e9
                                                                  subst e10
                                                                  subst e11
                                                                  subst e12
                                                                  subst e20
                                                                  subst e21
                                                                  subst e22
                                                                  subst e23
                                                                  subst e24
                                                                  subst e25
                                                                  subst e26
                                                                  subst e27
                                                                  subst e30
                                                                  subst e31
                                                                  subst e32
                                                                  subst e33
                                                                  subst e34
                                                                  subst e35
                                                                  subst e36
                                                                  subst e37
                                                                  subst eq
                                                                  subst htl
                                                                  refine zz_vret 160 X.1 hr hlk K ⟨rfl, fun k hk => (Nat.lt_or_ge k 100).elim (fun h => (Classical.em (k < 13 ∨ (20 ≤ k ∧ k < 28) ∨ (30 ≤ k ∧ k < 38))).elim (fun z => Or.inl (by omega)) (fun z => Or.inr (eU k h z))) (fun h => Or.inl (by omega))⟩ (fun t ht _ => ?_) dX6_init_160
                                                                  have h1 := LPw_mid ht
                                                                  have h2 := LPw_cell 1 (y := (8, .inr (.inr (.inr (.inr (fun i => some (K (20 + i)))))))) rfl (by rw [vp_cell_q, vp_cell_q]; unfold arrV; congr 1 <;> refine congrArg _ (funext fun j => ?_) <;> obtain ⟨j, hj⟩ := j <;> show va_rf (rf [K 20, K 21, K 22, K 23, K 24, K 25, K 26, K 27] j) = va_rf (some (K (20 + j))) <;> rcases (show j = 0 ∨ j = 1 ∨ j = 2 ∨ j = 3 ∨ j = 4 ∨ j = 5 ∨ j = 6 ∨ j = 7 by omega) with rfl | rfl | rfl | rfl | rfl | rfl | rfl | rfl <;> rfl) h1
                                                                  have h3 := LPw_cell 25 (y := (100, .inr (.inr (.inr (.inr (fun i => some (K (100 + i)))))))) rfl (by rw [vp_cell_q, vp_cell_q]; unfold arrV; congr 1 <;> refine congrArg _ (funext fun j => ?_) <;> show va_rf (fil _ 100 j.val) = _ <;> unfold fil <;> rw [if_pos j.isLt]) h2
                                                                  have h3b : LPw (zz_A (fun q => q = K 0) s.heap.size) D ([((K 0), .inr (6, [.ref (K 1), .ref (K 2), .ref (K 4), .ref (K 11), .int (-1), .int (-1), .int (nI 0)])), ((K 1), .inl (C 4, 8, .inr (.inr (.inr (.inr (fun i => some (K (20 + i)))))))), ((K 20), .inr (0, [.ref (K 30)])), ((K 30), .inl (C 2, 16, .inr (.inl (WH hA1 0)))), ((K 21), .inr (0, [.ref (K 31)])), ((K 31), .inl (C 2, 16, .inr (.inl (WH (hB 10) 1)))), ((K 22), .inr (0, [.ref (K 32)])), ((K 32), .inl (C 2, 16, .inr (.inl (WH (hC2 11) 2)))), ((K 23), .inr (0, [.ref (K 33)])), ((K 33), .inl (C 2, 16, .inr (.inl (WH hZ 3)))), ((K 24), .inr (0, [.ref (K 34)])), ((K 34), .inl (C 2, 16, .inr (.inl (WH hZ 4)))), ((K 25), .inr (0, [.ref (K 35)])), ((K 35), .inl (C 2, 16, .inr (.inl (WH hZ 5)))), ((K 26), .inr (0, [.ref (K 36)])), ((K 36), .inl (C 2, 16, .inr (.inl (WH hZ 6)))), ((K 27), .inr (0, [.ref (K 37)])), ((K 37), .inl (C 2, 16, .inr (.inl (WH hZ 7)))), ((K 2), .inr (3, [.ref (K 3), .int (nI 0)])), ((K 3), .inl (C 0, 400, .inl (fun _ => 0))), ((K 4), .inr (1, [.ref (K 5), .ref (K 9), .ref (K 10), .int (nI 0), .int (nI 0)])), ((K 5), .inr (5, [.ref (K 6), .ref (K 7), .ref (K 8), .int (nI 0), .int (nI 0), .int (nI 0)])), ((K 6), .inl (C 1, 400, .inl (fun _ => 0))), ((K 7), .inl (C 1, 400, .inl (fun _ => 0))), ((K 8), .inl (C 1, 400, .inl (fun _ => 0))), ((K 9), .inl (C 5, 100, .inr (.inr (.inr (.inr (fun i => some (K (100 + i)))))))), ((K 10), .inl (C 1, 400, .inl (fun _ => 0))), ((K 11), .inr (4, [.ref (K 12), .int (nI 0)])), ((K 12), .inl (C 0, 5034, .inl (fun _ => 0)))] ++ (List.range 100).map (fun j => ((fun n => K (100 + n)) j, .inr (2, [.int 0, .int 0, .int 0, .int 0])))) t.heap := h3
                                                                  have h4 := LPw_sub (w1' := DW1 C K cF0 (fun _ _ => 0) ++ (DW2 K ++ DW3 C K (fun s => WH (hq0 s) s))) [0, 1, 18, 19, 20, 21, 22, 23, 24, 25, 26, 27, 28, 2, 4, 6, 8, 10, 12, 14, 16, 3, 5, 7, 9, 11, 13, 15, 17] rfl rfl rfl h3b
                                                                  have h5 : LPw (zz_A (fun q => q = K 0) s.heap.size) D (DW C K cF0 (fun s => WH (hq0 s) s) (fun _ _ => 0) (fun _ _ => 0)) t.heap := by unfold DW; rw [List.append_assoc, List.append_assoc] at h4; exact h4
                                                                  exact ⟨DW3_cong h5.1 hq_ok, D_addr h5.2 DW_fst (fun _ h => h)⟩
                                                                · exfalso; omega
                                        · exfalso; omega
                  · exfalso; omega
