/-! The law's object is made; the script is stirred. -/
section STS
variable {p : Program} {l : Launch} {e : Env} {R : Room} {s : State} {m : MethodId} {args : Array Value} {below : List Frame} {meth : Method} {c : Code} {cells slots : Nat} {Q : State → Prop} {n : Nat} {lv lv' : List (Nat × Value)} {st st0 : List Value} {cc : ByteArray} {Ts : List Cond} {own : String} {D : va_G} {C : Nat → ClassId} {A : Nat → Prop} {ws : va_W}
theorem ka_char (h : (Cond.arrayClass .char).before args s = true) : ∃ cA : ClassId, ArrOfT s cA .char ∧ va_RA s cA .char := by
  obtain ⟨c1, k, comp, h1, h2, h3⟩ := Cond.arrayClass_spec (args := args) (first := s) (o := none) (s := s) (idx := []) h
  exact ⟨c1, fun n z => ⟨fun k h => (by cases h), k, h2, comp, h3⟩, h1⟩
theorem ka_int (h : (Cond.arrayClass .int).before args s = true) : ∃ cA : ClassId, ArrOfT s cA .int ∧ va_RA s cA .int := by
  obtain ⟨c1, k, comp, h1, h2, h3⟩ := Cond.arrayClass_spec (args := args) (first := s) (o := none) (s := s) (idx := []) h
  exact ⟨c1, fun n z => ⟨fun k h => (by cases h), k, h2, comp, h3⟩, h1⟩
theorem ka_long (h : (Cond.arrayClass .long).before args s = true) : ∃ cA : ClassId, ArrOfT s cA .long ∧ va_RA s cA .long := by
  obtain ⟨c1, k, comp, h1, h2, h3⟩ := Cond.arrayClass_spec (args := args) (first := s) (o := none) (s := s) (idx := []) h
  exact ⟨c1, fun n z => ⟨fun k h => (by cases h), k, h2, comp, h3⟩, h1⟩
theorem ka_boolean (h : (Cond.arrayClass .boolean).before args s = true) : ∃ cA : ClassId, ArrOfT s cA .boolean ∧ va_RA s cA .boolean := by
  obtain ⟨c1, k, comp, h1, h2, h3⟩ := Cond.arrayClass_spec (args := args) (first := s) (o := none) (s := s) (idx := []) h
  exact ⟨c1, fun n z => ⟨fun k h => (by cases h), k, h2, comp, h3⟩, h1⟩
theorem ka_obj {Cn : String} (h : (Cond.arrayOver (.object Cn)).before args s = true) : ∃ cA : ClassId, ArrOfT s cA (.object Cn) ∧ va_RA s cA (.object Cn) := by
  obtain ⟨comp, c1, k, h1, h2, h3, h4, h5⟩ := Cond.arrayOver_spec (args := args) (first := s) (o := none) (s := s) (idx := []) h
  exact ⟨c1, fun n z => ⟨fun k h => (by cases h), k, h3, comp, h4⟩, k, comp, h3, h4, h1, h5⟩
theorem vkR_ex {o1 tx : String} {k : Nat} (h1 : (Cond.stringRef o1 k tx).before args s = true) (h2 : (Cond.exactly (.string o1 k) "java/lang/String").before args s = true) : ∃ a : Nat, vk_R o1 k tx a s := by
  obtain ⟨a, c1, cA, kA, q1, -⟩ := Cond.exactly_spec (args := args) (first := s) (o := none) (s := s) (idx := []) (t := .string o1 k) (cls := "java/lang/String") h2
  exact ⟨a, vk_R.of h1 q1⟩
theorem D_rightA {w1 w2 : va_W} (h : va_D A (w1 ++ w2)) : va_D A w2 := by
  have key : ∀ (k : Nat) (q : Nat × va_E), w2[k]? = some q → (w1 ++ w2)[w1.length + k]? = some q := fun k q hk => by rw [List.getElem?_append_right (Nat.le_add_right _ _), Nat.add_sub_cancel_left]; exact hk
  exact ⟨fun i j p q hi hj hpq => by have := h.1 _ _ p q (key i p hi) (key j q hj) hpq; omega, fun k q hk => h.2 _ q (key k q hk)⟩
theorem D_cross {w1 w2 : va_W} (h : va_D A (w1 ++ w2)) {i j : Nat} {x y : Nat × va_E} (hx : w1[i]? = some x) (hy : w2[j]? = some y) : x.1 ≠ y.1 := fun z => by
  have hi := (List.getElem?_eq_some_iff.mp hx).1
  have h1 : (w1 ++ w2)[i]? = some x := by rw [List.getElem?_append_left hi]; exact hx
  have h2 : (w1 ++ w2)[w1.length + j]? = some y := by rw [List.getElem?_append_right (Nat.le_add_right _ _), Nat.add_sub_cancel_left]; exact hy
  have := h.1 _ _ x y h1 h2 z
  omega
theorem DAd_in {K : Nat → Nat} (hU : KU K) {q : Nat} (h : DAd K q) (F : Nat → Int32) (W : Nat → Nat → Int64) (G T : Nat → Nat → Int32) : ∃ (i : Nat) (x : va_E), (DW C K F W G T)[i]? = some (q, x) := by
  obtain ⟨k, hk, rfl⟩ := h
  rcases hU k hk with h | h
  · rcases h with h | h | h | h
    · rcases (show k = 0 ∨ k = 1 ∨ k = 2 ∨ k = 3 ∨ k = 4 ∨ k = 5 ∨ k = 6 ∨ k = 7 ∨ k = 8 ∨ k = 9 ∨ k = 10 ∨ k = 11 ∨ k = 12 by omega) with rfl | rfl | rfl | rfl | rfl | rfl | rfl | rfl | rfl | rfl | rfl | rfl | rfl
      · exact ⟨0, _, (DW_1 (by decide)).trans rfl⟩
      · exact ⟨1, _, (DW_1 (by decide)).trans rfl⟩
      · exact ⟨2, _, (DW_1 (by decide)).trans rfl⟩
      · exact ⟨3, _, (DW_1 (by decide)).trans rfl⟩
      · exact ⟨4, _, (DW_1 (by decide)).trans rfl⟩
      · exact ⟨5, _, (DW_1 (by decide)).trans rfl⟩
      · exact ⟨6, _, (DW_1 (by decide)).trans rfl⟩
      · exact ⟨7, _, (DW_1 (by decide)).trans rfl⟩
      · exact ⟨8, _, (DW_1 (by decide)).trans rfl⟩
      · exact ⟨9, _, (DW_1 (by decide)).trans rfl⟩
      · exact ⟨10, _, (DW_1 (by decide)).trans rfl⟩
      · exact ⟨11, _, (DW_1 (by decide)).trans rfl⟩
      · exact ⟨12, _, (DW_1 (by decide)).trans rfl⟩
    · have e := DW_2 (C := C) (K := K) (F := F) (W := W) (G := G) (T := T) (s := k - 20) (by omega)
      rw [show 20 + (k - 20) = k by omega] at e
      exact ⟨_, _, e⟩
    · have e := DW_3 (C := C) (K := K) (F := F) (W := W) (G := G) (T := T) (s := k - 30) (by omega)
      rw [show 30 + (k - 30) = k by omega] at e
      exact ⟨_, _, e⟩
    · have e := DW_4 (C := C) (K := K) (F := F) (W := W) (G := G) (T := T) (n := k - 100) (by omega)
      rw [show 100 + (k - 100) = k by omega] at e
      exact ⟨_, _, e⟩
  · rw [h]
    exact ⟨0, _, (DW_1 (by decide)).trans rfl⟩
theorem NX6.calling {t : Nat} {Z : Nat → Prop} {U : State} (h : NX6 t Z U) (g : JFrame) (mk : MethodId) (a : Array Value) : NX6 t Z (U.calling g mk a) :=
  ⟨h.1.calling g mk a, va_AO.moved (u := U) (U := U.calling g mk a) (Vm.Alike.refl U.vm) h.2.1, va_Nw.same rfl (u := U) (U := U.calling g mk a) rfl h.2.2.1, va_Nw.same rfl (u := U) (U := U.calling g mk a) rfl h.2.2.2.1, va_Nw.same rfl (u := U) (U := U.calling g mk a) rfl h.2.2.2.2.1, va_Z.moved (u := U) (U := U.calling g mk a) (Vm.Alike.refl U.vm) h.2.2.2.2.2.1, va_T.moved (u := U) (U := U.calling g mk a) (Vm.Alike.refl U.vm) h.2.2.2.2.2.2⟩
theorem NX6.moved {t : Nat} {Z Y : Nat → Prop} {U : State} {locs : List Loc} (hW : s.WarmedH U.vm) (hS : va_S Z s.heap U.heap locs) (hz : ∀ q, Y q → Z q) (h : NX6 t Z s) : NX6 t Y U :=
  ⟨h.1.warm hW, va_AO.moved hW.alike h.2.1, va_Nw.warmM hW h.2.2.1, va_Nw.warmM hW h.2.2.2.1, va_Nw.warmM hW h.2.2.2.2.1, (va_Z.moved hW.alike (h.2.2.2.2.2.1.kept hS.2.1)).narrow hz, (va_T.moved hW.alike (h.2.2.2.2.2.2.kept hS.2.1)).narrow hz⟩
theorem zl_callIY (pc : Nat) (X : CCx p s m args c cc Ts own D C) (hml : c.maxLocals = n) (hA : ∀ q, s.heap.size ≤ q → A q) {y : MethodName} {bytes : ByteArray} {maxL mc ms index : Nat} {ws' : List Cond} {rm : Room} {σ : Type} {wI : σ → va_W} {post : σ → Prop} {N : Nat → State → Prop} {q0 : Nat} {e0 : va_E} (hNc : ∀ (sz : Nat) (U : State) (g : JFrame) (mk : MethodId) (a : Array Value), N sz U → N sz (U.calling g mk a)) (hNw : ∀ (H : Heap) (locs : List Loc) (U : State), A q0 → va_S A s.heap H locs → U.heap = H → s.WarmedH U.vm → N H.size U)
  (hM : ∀ sz : Nat, Met l y ws' rm (va_Pc [.ref q0] (zz_E (fun sz U => (va_P D vwCl [(q0, e0)] U.heap ∧ va_K D vwCl (TY C) U) ∧ N sz U) sz)) (va_Qv post (fun u t => LPw (zz_A (fun q => q = q0) sz) D (wI u) t.heap) (zz_A (fun q => q = q0) sz)) mc ms (zz_A (fun q => q = q0) sz))
  (cw : CallB R s args own index y bytes maxL none ws' rm mc ms 0 ∧ y.name = "<init>" ∧ (Cond.instanceMethod y).before args s = true) (hwd : (st.map fun v => v.category).sum ≤ 8) (hf : cells + mc ≤ R.cells ∧ slots + ms ≤ R.slots) (hd : decode cc pc = .ok (.invokespecial index, 3))
  (kk : ∀ u : σ, post u → ZZ p l e R s m args below meth c (cells + mc) (slots + ms) Q A (LPw A D (ws ++ wI u)) n lv st (pc + 3)) : ZZ p l e R s m args below meth c cells slots Q A (LPw A D (ws ++ [(q0, e0)])) n lv (.ref q0 :: st) pc := by
  intro H locs ls hP hS hl
  have hAq : A q0 := hP.2.2 ws.length (q0, e0) (by rw [List.getElem?_append_right (Nat.le_refl _), Nat.sub_self]; rfl)
  have hF : ∀ q, zz_A (fun q => q = q0) H.size q → A q := fun q h => h.elim (fun z => z ▸ hAq) (fun z => hA q (Nat.le_trans hS.1 z))
  have hne : ∀ (k : Nat) (x : Nat × va_E), ws[k]? = some x → x.1 < H.size ∧ x.1 ≠ q0 := fun k x hx => by
    have hk : k < ws.length := (List.getElem?_eq_some_iff.mp hx).1
    have h1 : (ws ++ [(q0, e0)])[k]? = some x := by rw [List.getElem?_append_left hk]; exact hx
    refine ⟨va_at.lt (hP.1 k x h1), fun z => ?_⟩
    have h2 := hP.2.1 k ws.length x (q0, e0) h1 (by rw [List.getElem?_append_right (Nat.le_refl _), Nat.sub_self]; rfl) z
    omega
  refine va_callv (va_runI (As := []) (rest := st) ⟨X.1.1, X.1.2, hml, X.2.2.1, X.2.1⟩ (hM H.size) cw ⟨fun a U g mk q => ⟨q.1, q.2.1, ⟨q.2.2.1.1, va_K.moved (u := U) (U := U.calling g mk a) (Vm.Alike.refl U.vm) q.2.2.1.2⟩, hNc _ U g mk a q.2.2.2⟩, fun U hU hW => ⟨rfl, by rw [hU], ⟨by rw [hU]; exact P_right hP.1, va_K.moved hW.alike X.2.2.2⟩, hNw H locs U hAq hS hU hW⟩⟩ rfl rfl hl.1 rfl (lv_room hwd) hd hf) hS (fun q _ h => hF q h) hF (fun u t H1 locs1 ht hvm hpo hB hz hk hS1 => ?_)
  subst ht
  refine kk u hpo t.heap locs1 ls ⟨?_, ?_⟩ hS1 hl
  · exact (va_P.kept (P_left hP.1) (fun k q hq => hk q.1 (hne k q hq).1 (fun z => z.elim (hne k q hq).2 (fun z => absurd (hne k q hq).1 (Nat.not_lt.mpr z))))).app hB.1
  · refine va_D.app (D_left hP.2) (hB.2.weaken (fun _ q _ z => hF q.1 z)) (fun i j x y hx hy hxy => ?_)
    have h1 := hne i x hx
    have h2 := hB.2.2 j y hy
    rw [← hxy] at h2
    exact h2.elim h1.2 (fun z => absurd h1.1 (Nat.not_lt.mpr z))
theorem ka_byte (h : (Cond.arrayClass .byte).before args s = true) : ∃ cA : ClassId, ArrOfT s cA .byte ∧ va_RA s cA .byte := by
  obtain ⟨c1, k, comp, h1, h2, h3⟩ := Cond.arrayClass_spec (args := args) (first := s) (o := none) (s := s) (idx := []) h
  exact ⟨c1, fun n z => ⟨fun k h => (by cases h), k, h2, comp, h3⟩, h1⟩
theorem zz_wide {A' : Nat → Prop} {P : Heap → Prop} {pc0 : Nat} (h : ∀ q, A q → A' q) (k : ZZ p l e R s m args below meth c cells slots Q A' P n lv st pc0) : ZZ p l e R s m args below meth c cells slots Q A P n lv st pc0 := fun H locs ls hP hS hl => k H locs ls hP ⟨hS.1, fun q hq hn => hS.2.1 q hq (fun z => hn (h q z)), fun z hz => h _ (hS.2.2 z hz)⟩ hl
theorem LAp_ofL {K : Nat → Nat} {kL kH : Nat} {q : LSt} (hU : KU K) (hD : va_D A (LW C K kL kH q)) : LAp K kL kH ∧ ∀ z, LZ K kL kH z → A z := by
  have hD2 : va_D A (DW C K q.2.1.1 (WH q.2.1.2.1) q.2.1.2.2.1 q.2.1.2.2.2 ++ LWc C K kL kH q.1 q.2.2) := hD
  have hn : ∀ (j : Nat) (y : Nat × va_E), (LWc C K kL kH q.1 q.2.2)[j]? = some y → ¬ DAd K y.1 := fun j y hy h => by
    obtain ⟨i, z, hi⟩ := DAd_in (C := C) hU h q.2.1.1 (WH q.2.1.2.1) q.2.1.2.2.1 q.2.1.2.2.2
    exact D_cross hD2 hi hy rfl
  refine ⟨⟨fun _ _ _ _ _ => D_addr (D_left hD2) DW_fst (fun _ _ => trivial), hn 0 _ rfl, hn 1 _ rfl, fun h => ?_, hU⟩, fun z hz => ?_⟩
  · have := (D_rightA hD2).1 0 1 _ _ rfl rfl h
    omega
  · rcases hz with hz | rfl | rfl
    · obtain ⟨i, y, hi⟩ := DAd_in (C := C) hU hz q.2.1.1 (WH q.2.1.2.1) q.2.1.2.2.1 q.2.1.2.2.2
      exact (D_left hD2).2 i _ hi
    · exact (D_rightA hD2).2 0 _ rfl
    · exact (D_rightA hD2).2 1 _ rfl
theorem zs_tia (pc : Nat) (hc : p.tables.exec = Jvm.exec ∧ c.code = cc) {t N i : Nat} {f : Nat → Value} {P : Heap → Prop} (hT : va_T .int t N f A s s.heap) (hi : i < N) (hN : N < 2 ^ 31) {v : Value} (hv : f i = v) (hd : decode cc pc = .ok (.iaload, 1)) (kk : ZZ p l e R s m args below meth c cells slots Q A P n lv (v :: st) (pc + 1)) : ZZ p l e R s m args below meth c cells slots Q A P n lv (.int (nI i) :: .ref t :: st) pc := fun H locs ls hP hS hl => va_ti hc.1 hc.2 hT hS (vp_in_nI hi hN) (by rw [nI_clamp (Nat.lt_trans hi hN)]; exact hv) hd (kk H locs ls hP hS hl)
end STS
def XTx (b L : Nat) (xs : Nat → Int32) (Z : Nat → Prop) (U : State) : Prop := va_T .int b L (fun j => .int (xs j)) Z U U.heap
theorem XTx_ok {b L : Nat} {xs : Nat → Int32} : NOk (XTx b L xs) := ⟨fun _ _ h => va_T.at h, fun _ _ _ hz h => va_T.narrow h hz, fun _ _ _ _ hW hS h => va_T.moved hW.alike (va_T.kept h hS.2.1), fun _ U g mk a h => va_T.moved (u := U) (U := U.calling g mk a) (Vm.Alike.refl U.vm) h⟩
abbrev rm_L_stirred : Room := { frames := 0, cells := 0, slots := 0, locals := 0 }
theorem yd_L_stirred : yL_stirred.cls = RL ∧ yL_stirred.cls ≠ "java/lang/invoke/MethodHandle" ∧ yL_stirred.cls ≠ "java/lang/invoke/VarHandle" ∧ (parseMethodDescriptor yL_stirred.desc).map (fun d => d.parameters.length) = some 1 := by decide +kernel
set_option maxHeartbeats 4000000 in
set_option maxRecDepth 100000 in
theorem kt_L_stirred (l : Launch) (b : Nat) (L : Nat) (xs : Nat → Int32) (hL : L ≤ 260) : NSi l yL_stirred wsL_stirred rm_L_stirred (XTx b L xs) [.ref b] (fun (r : Int32) => True) := by
  refine NSi_of (lv := [(0, .ref b)]) (cc := cL_stirred) (maxL := 6) (ret := (some .int)) XTx_ok rfl (by decide +kernel) (Nat.le_of_ble_eq_true rfl) rfl ?_
  intro p e s m args below meth c hc hts hown hB hml hr hlk
  have X : (p.tables.exec = Jvm.exec ∧ c.code = cL_stirred) ∧ True := ⟨hc, trivial⟩
  generalize hQ : MQ below _ args s 0 0 _ = Q
  refine zz_ldcw 0 X.1 (v := 59481) dL_stirred_0 hown (by exact hts _ (by decide +kernel)) ?_
  refine zz_istore_n 3 X.1 (lv' := [(1, .int (59481 : Int32)), (0, .ref b)]) dL_stirred_3 (by decide) rfl ?_
  refine zz_aload_n 4 X.1 1 dL_stirred_4 rfl ?_
  refine zz_astore_n 5 X.1 (lv' := [(2, .ref b), (1, .int (59481 : Int32)), (0, .ref b)]) dL_stirred_5 (by decide) rfl ?_
  refine zz_aload_n 6 X.1 0 dL_stirred_6 rfl ?_
  refine zs_tlen 7 X.1 hB (v := nI L) rfl dL_stirred_7 ?_
  refine zz_istore_n 8 X.1 (lv' := [(3, .int (nI L)), (2, .ref b), (1, .int (59481 : Int32)), (0, .ref b)]) dL_stirred_8 (by decide) rfl ?_
  refine zz_iconst 9 X.1 (v := nI 0) dL_stirred_9 rfl ?_
  refine zz_istore 10 X.1 (lv' := [(4, .int (nI 0)), (3, .int (nI L)), (2, .ref b), (1, .int (59481 : Int32)), (0, .ref b)]) dL_stirred_10 (by decide) rfl ?_
  have C12 : ∀ (d : Nat) (acc : Int32) (i : Nat) (hi : i ≤ L) (hd : L - i < d), ZZ p l e rm_L_stirred s m args below meth c 0 0 Q (zz_A (fun _ => False) s.heap.size) (fun _ => True) 6 [(0, .ref b), (1, .int acc), (2, .ref b), (3, .int (nI L)), (4, .int (nI i))] [] 12 := by
    intro d
    induction d with
    | zero => intro acc i hi hd; exact absurd hd (Nat.not_lt_zero _)
    | succ d ih12 =>
      intro acc i hi hd
      refine zz_iload 12 X.1 4 dL_stirred_12 rfl ?_
      refine zz_iload_n 14 X.1 3 dL_stirred_14 rfl ?_
      refine zz_icmp_ge 15 49 X.1 (nI_toInt (by omega)) (nI_toInt (by omega)) dL_stirred_15 (by decide) (fun h15 => ?_) (fun h15 => ?_)
      · skip
        refine zz_iload_n 49 X.1 1 dL_stirred_49 rfl ?_
        rw [← hQ]
        refine zz_iret 50 X.1 hr rfl hlk () ?_ (fun _ _ _ => trivial) dL_stirred_50
        exact trivial
      · skip
        refine zz_aload_n 18 X.1 2 dL_stirred_18 rfl ?_
        refine zz_iload 19 X.1 4 dL_stirred_19 rfl ?_
        refine zs_tia 21 X.1 hB (i := i) (by omega) (by omega) (v := .int (xs i)) rfl dL_stirred_21 ?_
        refine zz_istore 22 X.1 (lv' := [(5, .int (xs i)), (0, .ref b), (1, .int acc), (2, .ref b), (3, .int (nI L)), (4, .int (nI i))]) dL_stirred_22 (by decide) rfl ?_
        refine zz_iload_n 24 X.1 2 dL_stirred_24 rfl ?_
        refine zz_iload 25 X.1 0 dL_stirred_25 rfl ?_
        refine zz_ixor 27 X.1 (v := (acc ^^^ (xs i))) dL_stirred_27 rfl ?_
        refine zz_ldci 28 X.1 (v := 1103515245) dL_stirred_28 hown (by exact hts _ (by decide +kernel)) ?_
        refine zz_imul 30 X.1 (v := ((acc ^^^ (xs i)) * (1103515245 : Int32))) dL_stirred_30 rfl ?_
        refine zz_sipush 31 X.1 (v := nI 12345) dL_stirred_31 rfl ?_
        refine zz_iadd 34 X.1 (v := (((acc ^^^ (xs i)) * (1103515245 : Int32)) + (nI 12345))) dL_stirred_34 rfl ?_
        refine zz_istore_n 35 X.1 (lv' := [(1, .int (((acc ^^^ (xs i)) * (1103515245 : Int32)) + (nI 12345))), (5, .int (xs i)), (0, .ref b), (2, .ref b), (3, .int (nI L)), (4, .int (nI i))]) dL_stirred_35 (by decide) rfl ?_
        refine zz_iload_n 36 X.1 0 dL_stirred_36 rfl ?_
        refine zz_iload_n 37 X.1 0 dL_stirred_37 rfl ?_
        refine zz_bipush 38 X.1 (v := nI 15) dL_stirred_38 rfl ?_
        refine zz_iushr 40 X.1 (v := (((((acc ^^^ (xs i)) * (1103515245 : Int32)) + (nI 12345)).toUInt32 >>> ((nI 15).toUInt32 &&& Int32.toUInt32 31)).toInt32)) dL_stirred_40 rfl ?_
        refine zz_ixor 41 X.1 (v := ((((acc ^^^ (xs i)) * (1103515245 : Int32)) + (nI 12345)) ^^^ (((((acc ^^^ (xs i)) * (1103515245 : Int32)) + (nI 12345)).toUInt32 >>> ((nI 15).toUInt32 &&& Int32.toUInt32 31)).toInt32))) dL_stirred_41 rfl ?_
        refine zz_istore_n 42 X.1 (lv' := [(1, .int ((((acc ^^^ (xs i)) * (1103515245 : Int32)) + (nI 12345)) ^^^ (((((acc ^^^ (xs i)) * (1103515245 : Int32)) + (nI 12345)).toUInt32 >>> ((nI 15).toUInt32 &&& Int32.toUInt32 31)).toInt32))), (5, .int (xs i)), (0, .ref b), (2, .ref b), (3, .int (nI L)), (4, .int (nI i))]) dL_stirred_42 (by decide) rfl ?_
        refine zz_iinc 43 X.1 5 (v := (nI (i + 1))) (lv' := [(4, .int (nI (i + 1))), (1, .int ((((acc ^^^ (xs i)) * (1103515245 : Int32)) + (nI 12345)) ^^^ (((((acc ^^^ (xs i)) * (1103515245 : Int32)) + (nI 12345)).toUInt32 >>> ((nI 15).toUInt32 &&& Int32.toUInt32 31)).toInt32))), (5, .int (xs i)), (0, .ref b), (2, .ref b), (3, .int (nI L))]) dL_stirred_43 rfl (nI_add i 1) (by decide) rfl ?_
        refine zz_goto 46 12 X.1 dL_stirred_46 (by decide) ?_
        refine zz_lvs [3, 1, 4, 5, 0] rfl ?_
        exact ih12 ((((acc ^^^ (xs i)) * (1103515245 : Int32)) + (nI 12345)) ^^^ (((((acc ^^^ (xs i)) * (1103515245 : Int32)) + (nI 12345)).toUInt32 >>> ((nI 15).toUInt32 &&& Int32.toUInt32 31)).toInt32)) (i + 1) (by omega) (by omega)
  refine zz_lvs [4, 3, 2, 1, 0] rfl ?_
  exact C12 (L - 0 + 1) (59481 : Int32) 0 (by omega) (Nat.lt_succ_self _)

abbrev rm_L_init : Room := { frames := 6, cells := 130, slots := 10772, locals := 200 }
set_option maxHeartbeats 8000000 in
set_option maxRecDepth 100000 in
theorem kt_L_init (l : Launch) (D : va_G) (C : Nat → ClassId) (h0 tb : Nat) : ∀ sz : Nat, Met l yL_init wsL_init rm_L_init (va_Pc [.ref h0] (zz_E (fun sz U => (va_P D vwCl [(h0, .inr (7, [.int 0, .null, .null]))] U.heap ∧ va_K D vwCl (TY C) U) ∧ NX6 tb (zz_A (fun q => q = h0) sz) U) sz)) (va_Qv (fun u : (Nat → Nat) × Nat => KU u.1) (fun u t => LPw (zz_A (fun q => q = h0) sz) D (LW C u.1 h0 u.2 (0, (cF0, hs00, fun _ _ => 0, fun _ _ => 0), fun _ => false)) t.heap) (zz_A (fun q => q = h0) sz)) 130 10772 (zz_A (fun q => q = h0) sz) := by
  intro sz
  refine Met.ofW (cc := cL_init) (maxL := 1) (ret := none) (by decide) rfl ?_
  intro p e s m args below meth c s₁ B hml hv
  obtain ⟨rfl, rfl, ⟨hP0, hK⟩, hN⟩ := hv
  have hin2 : meth.name = "<init>" := (name_of_methodNamed B.named B.method).1
  have hr := B.returns
  have hlk := B.notSynchronized
  have X : CCx p s m (#[Value.ref h0]) c cL_init wsL_init RL D C := ⟨⟨B.exec, B.bytes⟩, atoms_spec (ws := wsL_init) B.pre, findClass_of_methodNamed B.named, hK⟩
  have hA : ∀ q : Nat, s.heap.size ≤ q → (zz_A (fun q => q = h0) s.heap.size) q := fun q h => Or.inr h
  refine zz_enter (A := (zz_A (fun q => q = h0) s.heap.size)) (P := LPw (zz_A (fun q => q = h0) s.heap.size) D [(h0, .inr (7, [.int 0, .null, .null]))]) [.ref h0] 1 (Nat.le_of_ble_eq_true rfl) (lv := [(0, .ref h0)]) rfl ⟨hP0, D_one (Or.inl rfl)⟩ ?_
  obtain ⟨args, hargs⟩ : ∃ args, args = (#[Value.ref h0] : Array Value) := ⟨_, rfl⟩
  rw [← hargs] at X
  show ZZ p l e rm_L_init s m (#[Value.ref h0]) below meth c 0 0 (MQ below _ (#[Value.ref h0]) s 130 10772 _) _ _ _ _ _ _
  rw [← hargs]
  generalize hQ : MQ below _ _ s 130 10772 _ = Q
  refine zz_aload_n 0 X.1 0 dL_init_0 rfl ?_
  refine zl_init 1 X hml (by decide +kernel) (by decide +kernel) (by decide +kernel) dL_init_1 ⟨Nat.le_of_ble_eq_true rfl, Nat.le_of_ble_eq_true rfl⟩ ?_
  refine zz_aload_n 4 X.1 0 dL_init_4 rfl ?_
  refine zl_new 5 X hA (Cn := RX6) (T := TX6) (N := 7) (ci := 6) (index := 7) (fs := [.null, .null, .null, .null, .int 0, .int 0, .int 0]) (by decide +kernel) tyX6 tyX6_ok (by decide +kernel) (by decide +kernel) (by decide +kernel) rfl (by decide +kernel) ⟨Nat.le_of_ble_eq_true rfl, Nat.le_of_ble_eq_true rfl⟩ dL_init_5 ?_
  intro q1
  refine zz_dup 8 X.1 dL_init_8 rfl ?_
  refine zl_callIY 9 X hml hA (N := fun sz U => NX6 tb (zz_A (fun q => q = q1) sz) U) (fun sz U g mk a h => h.calling g mk a) (fun H locs U hq hS hU hW => NX6.moved (locs := locs) hW (by rw [hU]; exact hS) (fun q h => h.elim (fun h => h ▸ hq) (fun h => Or.inr (Nat.le_trans hS.1 h))) hN) (kt_X6_init l D C q1 tb) (cwI 0 X.2.1 gL_init_X6_init rfl rfl rfl (X.2.1 (.initialized RX6) (by decide +kernel)) (X.2.1 (.methodLink RL 9 yX6_init) (by decide +kernel)) (X.2.1 (.instanceMethod yX6_init) (by decide +kernel)) rfl (by decide +kernel) ⟨Nat.le_of_ble_eq_true rfl, Nat.le_of_ble_eq_true rfl⟩) (Nat.le_of_ble_eq_true rfl) ⟨Nat.le_of_ble_eq_true rfl, Nat.le_of_ble_eq_true rfl⟩ dL_init_9 ?_
  intro K hK
  obtain ⟨e0, hU⟩ := hK
  subst e0
  refine zz_world (P' := LPw (zz_A (fun q => q = h0) s.heap.size) D ((h0, .inr (7, [.int 0, .null, .null])) :: DW C K cF0 (WH hs00) (fun _ _ => 0) (fun _ _ => 0))) (fun _ h => h) ?_
  refine zl_putF 12 X hin2 (by decide +kernel) tyL tyL_ok nmL rfl 0 rfl 1 (by decide) (by decide +kernel) rfl rfl (v := .ref (K 0)) rfl rfl rfl (Nat.le_of_ble_eq_true rfl) dL_init_12 ?_
  refine zz_world (P' := LPw (zz_A (fun q => q = h0) s.heap.size) D ((h0, .inr (7, [.int 0, .ref (K 0), .null])) :: DW C K cF0 (WH hs00) (fun _ _ => 0) (fun _ _ => 0))) (fun _ h => h) ?_
  refine zz_aload_n 15 X.1 0 dL_init_15 rfl ?_
  refine zz_sipush 16 X.1 (v := nI 3072) dL_init_16 rfl ?_
  refine zl_newa 19 X hA (atype := .boolean) (ty := .boolean) 3 rfl rfl (by decide +kernel) (N' := 3072) (a0 := (3072, .inl (fun _ => 0))) (fun _ => rfl) (by decide) (by decide) ⟨Nat.le_of_ble_eq_true rfl, Nat.le_of_ble_eq_true rfl⟩ dL_init_19 ?_
  intro q2
  refine zz_world (P' := LPw (zz_A (fun q => q = h0) s.heap.size) D ((h0, .inr (7, [.int 0, .ref (K 0), .null])) :: (DW C K cF0 (WH hs00) (fun _ _ => 0) (fun _ _ => 0) ++ ([(q2, .inl (C 3, 3072, .inl (fun _ => 0)))] : va_W)))) (fun _ h => h) ?_
  refine zl_putF 21 X hin2 (by decide +kernel) tyL tyL_ok nmL rfl 0 rfl 2 (by decide) (by decide +kernel) rfl rfl (v := .ref q2) rfl rfl rfl (Nat.le_of_ble_eq_true rfl) dL_init_21 ?_
  refine zz_world (P' := LPw (zz_A (fun q => q = h0) s.heap.size) D ((h0, .inr (7, [.int 0, .ref (K 0), .ref q2])) :: (DW C K cF0 (WH hs00) (fun _ _ => 0) (fun _ _ => 0) ++ ([(q2, .inl (C 3, 3072, .inl (fun _ => 0)))] : va_W)))) (fun _ h => h) ?_
  rw [← hQ]
  refine zz_vret 24 X.1 hr hlk (K, q2) hU (fun t ht _ => ?_) dL_init_24
  have h1 := LPw_mid (w1 := [(h0, .inr (7, [.int 0, .ref (K 0), .ref q2]))]) (w2 := DW C K cF0 (WH hs00) (fun _ _ => 0) (fun _ _ => 0)) (w3 := [(q2, .inl (C 3, 3072, .inl (fun _ => 0)))]) ht
  have h2 := LPw_mid (w1 := []) (w2 := [(h0, .inr (7, [.int 0, .ref (K 0), .ref q2])), (q2, .inl (C 3, 3072, .inl (fun _ => 0)))]) (w3 := DW C K cF0 (WH hs00) (fun _ _ => 0) (fun _ _ => 0)) h1
  exact h2
