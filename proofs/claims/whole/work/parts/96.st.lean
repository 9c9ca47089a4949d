/-! The law's start. -/
section STS
variable {p : Program} {l : Launch} {e : Env} {R : Room} {s : State} {m : MethodId} {args : Array Value} {below : List Frame} {meth : Method} {c : Code} {cells slots : Nat} {Q : State → Prop} {n : Nat} {lv lv' : List (Nat × Value)} {st st0 : List Value} {cc : ByteArray} {Ts : List Cond} {own : String} {D : va_G} {C : Nat → ClassId} {cD : ClassId} {A : Nat → Prop} {ws : va_W}
theorem ka_char (h : (Cond.arrayClass .char).before args s = true) : ∃ cA : ClassId, ArrOfT s cA .char ∧ va_RA s cA .char := by
  obtain ⟨c1, k, comp, h1, h2, h3⟩ := Cond.arrayClass_spec (args := args) (first := s) (o := none) (s := s) (idx := []) h
  exact ⟨c1, fun n z => ⟨fun k h => (by cases h), k, h2, comp, h3⟩, h1⟩
theorem ka_int (h : (Cond.arrayClass .int).before args s = true) : ∃ cA : ClassId, ArrOfT s cA .int ∧ va_RA s cA .int := by
  obtain ⟨c1, k, comp, h1, h2, h3⟩ := Cond.arrayClass_spec (args := args) (first := s) (o := none) (s := s) (idx := []) h
  exact ⟨c1, fun n z => ⟨fun k h => (by cases h), k, h2, comp, h3⟩, h1⟩
theorem ka_long (h : (Cond.arrayClass .long).before args s = true) : ∃ cA : ClassId, ArrOfT s cA .long ∧ va_RA s cA .long := by
  obtain ⟨c1, k, comp, h1, h2, h3⟩ := Cond.arrayClass_spec (args := args) (first := s) (o := none) (s := s) (idx := []) h
  exact ⟨c1, fun n z => ⟨fun k h => (by cases h), k, h2, comp, h3⟩, h1⟩
theorem ka_boolean (h : (Cond.arrayClass .boolean).before args s = true) : ∃ cA : ClassId, ArrOfT s cA .boolean ∧ va_RA s cA .boolean := by
  obtain ⟨c1, k, comp, h1, h2, h3⟩ := Cond.arrayClass_spec (args := args) (first := s) (o := none) (s := s) (idx := []) h
  exact ⟨c1, fun n z => ⟨fun k h => (by cases h), k, h2, comp, h3⟩, h1⟩
theorem ka_double (h : (Cond.arrayClass .double).before args s = true) : ∃ cA : ClassId, ArrOfT s cA .double ∧ va_RA s cA .double := by
  obtain ⟨c1, k, comp, h1, h2, h3⟩ := Cond.arrayClass_spec (args := args) (first := s) (o := none) (s := s) (idx := []) h
  exact ⟨c1, fun n z => ⟨fun k h => (by cases h), k, h2, comp, h3⟩, h1⟩
theorem ka_obj {Cn : String} (h : (Cond.arrayOver (.object Cn)).before args s = true) : ∃ cA : ClassId, ArrOfT s cA (.object Cn) ∧ va_RA s cA (.object Cn) := by
  obtain ⟨comp, c1, k, h1, h2, h3, h4, h5⟩ := Cond.arrayOver_spec (args := args) (first := s) (o := none) (s := s) (idx := []) h
  exact ⟨c1, fun n z => ⟨fun k h => (by cases h), k, h3, comp, h4⟩, k, comp, h3, h4, h1, h5⟩
theorem vkR_ex {o1 tx : String} {k : Nat} (h1 : (Cond.stringRef o1 k tx).before args s = true) (h2 : (Cond.exactly (.string o1 k) "java/lang/String").before args s = true) : ∃ a : Nat, vk_R o1 k tx a s := by
  obtain ⟨a, c1, cA, kA, q1, -⟩ := Cond.exactly_spec (args := args) (first := s) (o := none) (s := s) (idx := []) (t := .string o1 k) (cls := "java/lang/String") h2
  exact ⟨a, vk_R.of h1 q1⟩
theorem D_right {w1 w2 : va_W} (h : va_D A (w1 ++ w2)) : va_D A w2 := by
  have key : ∀ (k : Nat) (q : Nat × va_E), w2[k]? = some q → (w1 ++ w2)[w1.length + k]? = some q := fun k q hk => by rw [List.getElem?_append_right (Nat.le_add_right _ _), Nat.add_sub_cancel_left]; exact hk
  exact ⟨fun i j p q hi hj hpq => by have := h.1 _ _ p q (key i p hi) (key j q hj) hpq; omega, fun k q hk => h.2 _ q (key k q hk)⟩
theorem D_cross {w1 w2 : va_W} (h : va_D A (w1 ++ w2)) {i j : Nat} {x y : Nat × va_E} (hx : w1[i]? = some x) (hy : w2[j]? = some y) : x.1 ≠ y.1 := fun z => by
  have hi := (List.getElem?_eq_some_iff.mp hx).1
  have h1 : (w1 ++ w2)[i]? = some x := by rw [List.getElem?_append_left hi]; exact hx
  have h2 : (w1 ++ w2)[w1.length + j]? = some y := by rw [List.getElem?_append_right (Nat.le_add_right _ _), Nat.add_sub_cancel_left]; exact hy
  have := h.1 _ _ x y h1 h2 z
  omega
theorem DAd_in {K : Nat → Nat} (hU : KU K) {q : Nat} (h : DAd K q) (F : Nat → Int32) (W : Nat → Nat → Int64) (G T : Nat → Nat → Int32) : ∃ (i : Nat) (x : va_E), (DW C K F W G T)[i]? = some (q, x) := by
  obtain ⟨k, hk, rfl⟩ := h
  rcases hU k hk with h | h
  · rcases h with h | h | h | h
    · rcases (show k = 0 ∨ k = 1 ∨ k = 2 ∨ k = 3 ∨ k = 4 ∨ k = 5 ∨ k = 6 ∨ k = 7 ∨ k = 8 ∨ k = 9 ∨ k = 10 ∨ k = 11 ∨ k = 12 by omega) with rfl | rfl | rfl | rfl | rfl | rfl | rfl | rfl | rfl | rfl | rfl | rfl | rfl
      · exact ⟨0, _, (DW_1 (by decide)).trans rfl⟩
      · exact ⟨1, _, (DW_1 (by decide)).trans rfl⟩
      · exact ⟨2, _, (DW_1 (by decide)).trans rfl⟩
      · exact ⟨3, _, (DW_1 (by decide)).trans rfl⟩
      · exact ⟨4, _, (DW_1 (by decide)).trans rfl⟩
      · exact ⟨5, _, (DW_1 (by decide)).trans rfl⟩
      · exact ⟨6, _, (DW_1 (by decide)).trans rfl⟩
      · exact ⟨7, _, (DW_1 (by decide)).trans rfl⟩
      · exact ⟨8, _, (DW_1 (by decide)).trans rfl⟩
      · exact ⟨9, _, (DW_1 (by decide)).trans rfl⟩
      · exact ⟨10, _, (DW_1 (by decide)).trans rfl⟩
      · exact ⟨11, _, (DW_1 (by decide)).trans rfl⟩
      · exact ⟨12, _, (DW_1 (by decide)).trans rfl⟩
    · have e := DW_2 (C := C) (K := K) (F := F) (W := W) (G := G) (T := T) (s := k - 20) (by omega)
      rw [show 20 + (k - 20) = k by omega] at e
      exact ⟨_, _, e⟩
    · have e := DW_3 (C := C) (K := K) (F := F) (W := W) (G := G) (T := T) (s := k - 30) (by omega)
      rw [show 30 + (k - 30) = k by omega] at e
      exact ⟨_, _, e⟩
    · have e := DW_4 (C := C) (K := K) (F := F) (W := W) (G := G) (T := T) (n := k - 100) (by omega)
      rw [show 100 + (k - 100) = k by omega] at e
      exact ⟨_, _, e⟩
  · rw [h]
    exact ⟨0, _, (DW_1 (by decide)).trans rfl⟩
theorem RAd_in {K : Nat → Nat} {q : Nat} (h : RAd K q) (F : Nat → Int32) (hs mv : Nat → Bool) (G : Nat → Nat → Int32) : ∃ (i : Nat) (x : va_E), (RW C K F hs mv G)[i]? = some (q, x) := by
  simp only [RAd, List.mem_cons, List.not_mem_nil, or_false] at h
  rcases h with rfl | rfl | rfl | rfl | rfl | rfl | rfl | rfl | rfl | rfl
  · exact ⟨0, _, rfl⟩
  · exact ⟨1, _, rfl⟩
  · exact ⟨2, _, rfl⟩
  · exact ⟨3, _, rfl⟩
  · exact ⟨4, _, rfl⟩
  · exact ⟨5, _, rfl⟩
  · exact ⟨6, _, rfl⟩
  · exact ⟨7, _, rfl⟩
  · exact ⟨8, _, rfl⟩
  · exact ⟨9, _, rfl⟩
theorem LAp_of {K KR : Nat → Nat} {ao ad : Nat} {F F2 : Nat → Int32} {W : Nat → Nat → Int64} {G T G2 : Nat → Nat → Int32} {hs mv : Nat → Bool} {x y : va_E} (hU : KU K) (hD : va_D A (((DW C K F W G T ++ RW C KR F2 hs mv G2) ++ [(ao, x)]) ++ [(ad, y)])) : LAp A K KR ao ad := by
  have h1 := D_left hD
  have h2 := D_left h1
  refine ⟨⟨fun _ _ _ _ _ => D_addr (D_left h2) DW_fst (fun _ _ => trivial), fun _ _ _ _ _ => D_addr (D_right h2) rfl (fun _ _ => trivial)⟩, fun q hq => ?_, fun q hq => ?_, (D_right h1).2 0 _ rfl, (D_right hD).2 0 _ rfl, ?_⟩
  · obtain ⟨i, z, hi⟩ := DAd_in (C := C) hU hq F W G T
    have hiL := (List.getElem?_eq_some_iff.mp hi).1
    refine ⟨(D_left h2).2 i _ hi, fun hr => ?_, ?_, ?_⟩
    · obtain ⟨j, z2, hj⟩ := RAd_in (C := C) hr F2 hs mv G2
      exact D_cross h2 hi hj rfl
    · exact D_cross h1 (i := i) (by rw [List.getElem?_append_left hiL]; exact hi) (j := 0) (y := (ao, x)) rfl
    · exact D_cross hD (i := i) (by rw [List.append_assoc, List.getElem?_append_left hiL]; exact hi) (j := 0) (y := (ad, y)) rfl
  · obtain ⟨j, z, hj⟩ := RAd_in (C := C) hq F2 hs mv G2
    have hj2 : (DW C K F W G T ++ RW C KR F2 hs mv G2)[(DW C K F W G T).length + j]? = some (q, z) := by rw [List.getElem?_append_right (Nat.le_add_right _ _), Nat.add_sub_cancel_left]; exact hj
    have hjL := (List.getElem?_eq_some_iff.mp hj2).1
    exact ⟨(D_right h2).2 j _ hj, D_cross h1 hj2 (j := 0) (y := (ao, x)) rfl, D_cross hD (by rw [List.getElem?_append_left hjL]; exact hj2) (j := 0) (y := (ad, y)) rfl⟩
  · exact D_cross hD (i := (DW C K F W G T ++ RW C KR F2 hs mv G2).length) (x := (ao, x)) (by rw [List.getElem?_append_right (Nat.le_refl _), Nat.sub_self]; rfl) (j := 0) (y := (ad, y)) rfl
theorem NX6.calling {t : Nat} {Z : Nat → Prop} {U : State} (h : NX6 t Z U) (g : JFrame) (mk : MethodId) (a : Array Value) : NX6 t Z (U.calling g mk a) :=
  ⟨h.1.calling g mk a, va_AO.moved (u := U) (U := U.calling g mk a) (Vm.Alike.refl U.vm) h.2.1, va_Nw.same rfl (u := U) (U := U.calling g mk a) rfl h.2.2.1, va_Nw.same rfl (u := U) (U := U.calling g mk a) rfl h.2.2.2.1, va_Nw.same rfl (u := U) (U := U.calling g mk a) rfl h.2.2.2.2.1, va_Z.moved (u := U) (U := U.calling g mk a) (Vm.Alike.refl U.vm) h.2.2.2.2.2.1, va_T.moved (u := U) (U := U.calling g mk a) (Vm.Alike.refl U.vm) h.2.2.2.2.2.2⟩
theorem NX6.moved {t : Nat} {Z Y : Nat → Prop} {U : State} {locs : List Loc} (hW : s.WarmedH U.vm) (hS : va_S Z s.heap U.heap locs) (hz : ∀ q, Y q → Z q) (h : NX6 t Z s) : NX6 t Y U :=
  ⟨h.1.warm hW, va_AO.moved hW.alike h.2.1, va_Nw.warmM hW h.2.2.1, va_Nw.warmM hW h.2.2.2.1, va_Nw.warmM hW h.2.2.2.2.1, (va_Z.moved hW.alike (h.2.2.2.2.2.1.kept hS.2.1)).narrow hz, (va_T.moved hW.alike (h.2.2.2.2.2.2.kept hS.2.1)).narrow hz⟩
theorem zl_callIY (pc : Nat) (X : CCx p s m args c cc Ts own D C) (hml : c.maxLocals = n) (hA : ∀ q, s.heap.size ≤ q → A q) {y : MethodName} {bytes : ByteArray} {maxL mc ms index : Nat} {ws' : List Cond} {rm : Room} {σ : Type} {wI : σ → va_W} {post : σ → Prop} {N : Nat → State → Prop} {q0 : Nat} {e0 : va_E} (hNc : ∀ (sz : Nat) (U : State) (g : JFrame) (mk : MethodId) (a : Array Value), N sz U → N sz (U.calling g mk a)) (hNw : ∀ (H : Heap) (locs : List Loc) (U : State), A q0 → va_S A s.heap H locs → U.heap = H → s.WarmedH U.vm → N H.size U)
  (hM : ∀ sz : Nat, Met l y ws' rm (va_Pc [.ref q0] (zz_E (fun sz U => (va_P D vwCl [(q0, e0)] U.heap ∧ va_K D vwCl (TY C) U) ∧ N sz U) sz)) (va_Qv post (fun u t => LPw (zz_A (fun q => q = q0) sz) D (wI u) t.heap) (zz_A (fun q => q = q0) sz)) mc ms (zz_A (fun q => q = q0) sz))
  (cw : CallB R s args own index y bytes maxL none ws' rm mc ms 0 ∧ y.name = "<init>" ∧ (Cond.instanceMethod y).before args s = true) (hwd : (st.map fun v => v.category).sum ≤ 8) (hf : cells + mc ≤ R.cells ∧ slots + ms ≤ R.slots) (hd : decode cc pc = .ok (.invokespecial index, 3))
  (kk : ∀ u : σ, post u → ZZ p l e R s m args below meth c (cells + mc) (slots + ms) Q A (LPw A D (ws ++ wI u)) n lv st (pc + 3)) : ZZ p l e R s m args below meth c cells slots Q A (LPw A D (ws ++ [(q0, e0)])) n lv (.ref q0 :: st) pc := by
  intro H locs ls hP hS hl
  have hAq : A q0 := hP.2.2 ws.length (q0, e0) (by rw [List.getElem?_append_right (Nat.le_refl _), Nat.sub_self]; rfl)
  have hF : ∀ q, zz_A (fun q => q = q0) H.size q → A q := fun q h => h.elim (fun z => z ▸ hAq) (fun z => hA q (Nat.le_trans hS.1 z))
  have hne : ∀ (k : Nat) (x : Nat × va_E), ws[k]? = some x → x.1 < H.size ∧ x.1 ≠ q0 := fun k x hx => by
    have hk : k < ws.length := (List.getElem?_eq_some_iff.mp hx).1
    have h1 : (ws ++ [(q0, e0)])[k]? = some x := by rw [List.getElem?_append_left hk]; exact hx
    refine ⟨va_at.lt (hP.1 k x h1), fun z => ?_⟩
    have h2 := hP.2.1 k ws.length x (q0, e0) h1 (by rw [List.getElem?_append_right (Nat.le_refl _), Nat.sub_self]; rfl) z
    omega
  refine va_callv (va_runI (As := []) (rest := st) ⟨X.1.1, X.1.2, hml, X.2.2.1, X.2.1⟩ (hM H.size) cw ⟨fun a U g mk q => ⟨q.1, q.2.1, ⟨q.2.2.1.1, va_K.moved (u := U) (U := U.calling g mk a) (Vm.Alike.refl U.vm) q.2.2.1.2⟩, hNc _ U g mk a q.2.2.2⟩, fun U hU hW => ⟨rfl, by rw [hU], ⟨by rw [hU]; exact P_right hP.1, va_K.moved hW.alike X.2.2.2⟩, hNw H locs U hAq hS hU hW⟩⟩ rfl rfl hl.1 rfl (lv_room hwd) hd hf) hS (fun q _ h => hF q h) hF (fun u t H1 locs1 ht hvm hpo hB hz hk hS1 => ?_)
  subst ht
  refine kk u hpo t.heap locs1 ls ⟨?_, ?_⟩ hS1 hl
  · exact (va_P.kept (P_left hP.1) (fun k q hq => hk q.1 (hne k q hq).1 (fun z => z.elim (hne k q hq).2 (fun z => absurd (hne k q hq).1 (Nat.not_lt.mpr z))))).app hB.1
  · refine va_D.app (D_left hP.2) (hB.2.weaken (fun _ q _ z => hF q.1 z)) (fun i j x y hx hy hxy => ?_)
    have h1 := hne i x hx
    have h2 := hB.2.2 j y hy
    rw [← hxy] at h2
    exact h2.elim h1.2 (fun z => absurd h1.1 (Nat.not_lt.mpr z))
theorem zl_newd (pc : Nat) (X : CCx p s m args c cc Ts own D C) (hKd : va_K D vwCl [(cD, .double)] s) (hA : ∀ q, s.heap.size ≤ q → A q) (harr : Cond.arrayClass .double ∈ Ts) (hcs : cells + 1 ≤ R.cells ∧ slots + 1 ≤ R.slots) (hd : decode cc pc = .ok (.newarray .double, 2))
  (kk : ∀ q : Nat, ZZ p l e R s m args below meth c (cells + 1) (slots + 1) Q A (LPw A D (ws ++ ODn cD q 0)) n lv (.ref q :: st) (pc + 2)) : ZZ p l e R s m args below meth c cells slots Q A (LPw A D ws) n lv (.int (nI 1) :: st) pc := fun H locs ls hP hS hl =>
  va_newa (atype := .double) (ty := .double) (N' := 1) (a0 := (1, .inr (.inr (.inr (.inl (fun _ => 0)))))) X.1.1 X.1.2 (X.2.1 _ harr) rfl X.2.2.2 hP.1 hP.2 hS hA (fun _ => rfl) (by decide) (by decide) (by decide) hcs.1 hcs.2 hd (fun q cA H1 hK1 hP1 hD1 hS1 => by
    have h1 := (hK1.2 (TY C).length (cA, .double) (by rw [List.getElem?_append_right (Nat.le_refl _), Nat.sub_self]; rfl)).2
    have h2 := (hKd.2 0 _ rfl).2
    have e1 : cA = cD := RA_one h1 h2
    subst e1
    exact kk q H1 locs ls ⟨hP1, hD1⟩ hS1 hl)
end STS
set_option maxHeartbeats 8000000 in
set_option maxRecDepth 100000 in
theorem law_AM {s : State} {b : Nat} (hts : ∀ w ∈ lw_tbl, w.before #[Value.ref b] s = true) (hgv : (Jvm.Cond.and given_1 narrow_1).before #[Value.ref b] s = true) : AM (fun q => s.heap.size ≤ q) s ∧ NCx s := by
  have hs := flat_of_before _ hgv
  have hA : ∀ a : Nat, a < s.heap.size → ¬ (s.heap.size ≤ a) := fun a h => Nat.not_le.mpr h
  refine ⟨⟨vx_Zqof (hts (.laysStatic Bundle.tN "UNASSIGNED_STACK" Bundle.steD) (by decide +kernel)) (hts (.initialized Bundle.tN) (by decide +kernel)) (hs (.isRef (.static Bundle.tN "UNASSIGNED_STACK" Bundle.steD)) (by decide +kernel)) hA, vx_Zqof (hts (.laysStatic Bundle.tN "SUPPRESSED_SENTINEL" Bundle.listD) (by decide +kernel)) (hts (.initialized Bundle.tN) (by decide +kernel)) (hs (.isRef (.static Bundle.tN "SUPPRESSED_SENTINEL" Bundle.listD)) (by decide +kernel)) hA, fun x hx => ?_, fun w hw => ?_⟩, va_Nc.of (hs (.not (.castable "java/lang/IndexOutOfBoundsException" "java/lang/IllegalArgumentException")) (by decide +kernel)), va_Nc.of (hs (.not (.castable "java/lang/IllegalStateException" "java/lang/IllegalArgumentException")) (by decide +kernel))⟩
  · simp only [xTx, List.mem_cons, List.not_mem_nil, or_false] at hx
    rcases hx with rfl | rfl | rfl | rfl | rfl | rfl | rfl | rfl | rfl | rfl
    · exact vkR_ex (hts (.stringRef RX6 255 "there is no such place") (by decide +kernel)) (hs (.exactly (.string RX6 255) "java/lang/String") (by decide +kernel))
    · exact vkR_ex (hts (.stringRef RX6 244 "the index is too small") (by decide +kernel)) (hs (.exactly (.string RX6 244) "java/lang/String") (by decide +kernel))
    · exact vkR_ex (hts (.stringRef RX6 251 "the range goes beyond 1023") (by decide +kernel)) (hs (.exactly (.string RX6 251) "java/lang/String") (by decide +kernel))
    · exact vkR_ex (hts (.stringRef RX6 247 "the index is above 1023") (by decide +kernel)) (hs (.exactly (.string RX6 247) "java/lang/String") (by decide +kernel))
    · exact vkR_ex (hts (.stringRef RX6 240 "there is no such set") (by decide +kernel)) (hs (.exactly (.string RX6 240) "java/lang/String") (by decide +kernel))
    · exact vkR_ex (hts (.stringRef RX6 86 "the text has an error") (by decide +kernel)) (hs (.exactly (.string RX6 86) "java/lang/String") (by decide +kernel))
    · exact vkR_ex (hts (.stringRef RX6 69 "the tape would have too many bytes") (by decide +kernel)) (hs (.exactly (.string RX6 69) "java/lang/String") (by decide +kernel))
    · exact vkR_ex (hts (.stringRef RX6 249 "the numbers are no range") (by decide +kernel)) (hs (.exactly (.string RX6 249) "java/lang/String") (by decide +kernel))
    · exact vkR_ex (hts (.stringRef RX6 160 "the tape has too many bytes") (by decide +kernel)) (hs (.exactly (.string RX6 160) "java/lang/String") (by decide +kernel))
    · exact vkR_ex (hts (.stringRef RX6 253 "the number is out of range") (by decide +kernel)) (hs (.exactly (.string RX6 253) "java/lang/String") (by decide +kernel))
  · simp only [xDc, List.mem_cons, List.not_mem_nil, or_false] at hw
    rcases hw with rfl | rfl | rfl | rfl | rfl | rfl
    · exact va_tabs (A := #[Value.ref b]) rfl rfl (hts (.declares (Bundle.initS "java/lang/RuntimeException")) (by decide +kernel))
    · exact va_tabs (A := #[Value.ref b]) rfl rfl (hts (.declares (Bundle.initS "java/lang/Exception")) (by decide +kernel))
    · exact va_tabs (A := #[Value.ref b]) rfl rfl (hts (.declares (Bundle.initS "java/lang/Throwable")) (by decide +kernel))
    · exact va_tabs (A := #[Value.ref b]) rfl rfl (hts (.castable "java/lang/IllegalArgumentException" "java/lang/IllegalArgumentException") (by decide +kernel))
    · exact va_tabs (A := #[Value.ref b]) rfl rfl (hts (.castable "java/lang/IllegalStateException" "java/lang/IllegalStateException") (by decide +kernel))
    · exact va_tabs (A := #[Value.ref b]) rfl rfl (hts (.castable "java/lang/IndexOutOfBoundsException" "java/lang/IndexOutOfBoundsException") (by decide +kernel))
set_option maxHeartbeats 8000000 in
set_option maxRecDepth 100000 in
theorem law_AS {s : State} {b : Nat} (hts : ∀ w ∈ lw_tbl, w.before #[Value.ref b] s = true) (hgv : (Jvm.Cond.and given_1 narrow_1).before #[Value.ref b] s = true) : ∃ adK adV : Nat → Nat, ASx adK adV (fun q => s.heap.size ≤ q) s := by
  have hs := flat_of_before _ hgv
  have hA : ∀ a : Nat, a < s.heap.size → ¬ (s.heap.size ≤ a) := fun a h => Nat.not_le.mpr h
  obtain ⟨adK, adV, h1, h2⟩ := vk_Sof (A := fun q => s.heap.size ≤ q) (args := #[Value.ref b]) (s := s) (N := 1) (tm := fun _ => .string "NumberSetDesk$Tokens" 68) (len := [12]) (byt := [sgb])
    (fun i hi => by obtain rfl : i = 0 := by omega
                    decide)
    (fun i hi => hs (.exactly (.string "NumberSetDesk$Tokens" 68) "java/lang/String") (by decide +kernel))
    (fun i hi => hs (.eq (.field (.string "NumberSetDesk$Tokens" 68) "java/lang/String" "coder" "B") (.int 0)) (by decide +kernel))
    (fun i hi => hs (.arrayOf (.field (.string "NumberSetDesk$Tokens" 68) "java/lang/String" "value" "[B") .byte) (by decide +kernel))
    (fun i hi => by
      obtain rfl : i = 0 := by omega
      exact hs (.eq (.length (.field (.string "NumberSetDesk$Tokens" 68) "java/lang/String" "value" "[B")) (.int 12)) (by decide +kernel))
    (fun i hi j hj => by
      obtain rfl : i = 0 := by omega
      have hj2 : j < 12 := hj
      rcases (show j = 0 ∨ j = 1 ∨ j = 2 ∨ j = 3 ∨ j = 4 ∨ j = 5 ∨ j = 6 ∨ j = 7 ∨ j = 8 ∨ j = 9 ∨ j = 10 ∨ j = 11 by omega) with rfl | rfl | rfl | rfl | rfl | rfl | rfl | rfl | rfl | rfl | rfl | rfl
      · exact hs (.eq (.elem (.field (.string "NumberSetDesk$Tokens" 68) "java/lang/String" "value" "[B") (.int 0)) (.int 59)) (by decide +kernel)
      · exact hs (.eq (.elem (.field (.string "NumberSetDesk$Tokens" 68) "java/lang/String" "value" "[B") (.int 1)) (.int 43)) (by decide +kernel)
      · exact hs (.eq (.elem (.field (.string "NumberSetDesk$Tokens" 68) "java/lang/String" "value" "[B") (.int 2)) (.int 45)) (by decide +kernel)
      · exact hs (.eq (.elem (.field (.string "NumberSetDesk$Tokens" 68) "java/lang/String" "value" "[B") (.int 3)) (.int 94)) (by decide +kernel)
      · exact hs (.eq (.elem (.field (.string "NumberSetDesk$Tokens" 68) "java/lang/String" "value" "[B") (.int 4)) (.int 38)) (by decide +kernel)
      · exact hs (.eq (.elem (.field (.string "NumberSetDesk$Tokens" 68) "java/lang/String" "value" "[B") (.int 5)) (.int 124)) (by decide +kernel)
      · exact hs (.eq (.elem (.field (.string "NumberSetDesk$Tokens" 68) "java/lang/String" "value" "[B") (.int 6)) (.int 126)) (by decide +kernel)
      · exact hs (.eq (.elem (.field (.string "NumberSetDesk$Tokens" 68) "java/lang/String" "value" "[B") (.int 7)) (.int 33)) (by decide +kernel)
      · exact hs (.eq (.elem (.field (.string "NumberSetDesk$Tokens" 68) "java/lang/String" "value" "[B") (.int 8)) (.int 61)) (by decide +kernel)
      · exact hs (.eq (.elem (.field (.string "NumberSetDesk$Tokens" 68) "java/lang/String" "value" "[B") (.int 9)) (.int 91)) (by decide +kernel)
      · exact hs (.eq (.elem (.field (.string "NumberSetDesk$Tokens" 68) "java/lang/String" "value" "[B") (.int 10)) (.int 93)) (by decide +kernel)
      · exact hs (.eq (.elem (.field (.string "NumberSetDesk$Tokens" 68) "java/lang/String" "value" "[B") (.int 11)) (.int 44)) (by decide +kernel))
    (fun i j hi hj hij => absurd (show i = j by omega) hij) hA
  exact ⟨adK, adV, h1, vk_R.of (A := #[Value.ref b]) (hts (.stringRef "NumberSetDesk$Tokens" 68 ";+-^&|~!=[],") (by decide +kernel)) (h2 0 (by omega)), va_Zof (hts (.laysStatic "java/lang/String" "COMPACT_STRINGS" "Z") (by decide +kernel)) (hts (.initialized "java/lang/String") (by decide +kernel)) (va_eqt (hs (.eq (.static "java/lang/String" "COMPACT_STRINGS" "Z") (.int 1)) (by decide +kernel))) hA⟩
set_option maxHeartbeats 8000000 in
set_option maxRecDepth 100000 in
theorem law_N6 {s : State} {b : Nat} (hts : ∀ w ∈ lw_tbl, w.before #[Value.ref b] s = true) (hgv : (Jvm.Cond.and given_1 narrow_1).before #[Value.ref b] s = true) : ∃ t : Nat, NX6 t (fun q => s.heap.size ≤ q) s := by
  have hs := flat_of_before _ hgv
  have hA : ∀ a : Nat, a < s.heap.size → ¬ (s.heap.size ≤ a) := fun a h => Nat.not_le.mpr h
  obtain ⟨t, ht, hT⟩ := va_Tof (A := fun q => s.heap.size ≤ q) (args := #[Value.ref b]) (s := s) (tm := (.static "NumberSetDesk" "FIRST_OF_SET_2" "[I")) (ty := .int) (N := 11) (f := fun j => .int (nI (fsT.getD j 0))) (by decide) (hs (.arrayOf (.static "NumberSetDesk" "FIRST_OF_SET_2" "[I") .int) (by decide +kernel)) (va_eqt (hs (.eq (.length (.static "NumberSetDesk" "FIRST_OF_SET_2" "[I")) (.int 11)) (by decide +kernel))) (fun j hj => by
      rcases (show j = 0 ∨ j = 1 ∨ j = 2 ∨ j = 3 ∨ j = 4 ∨ j = 5 ∨ j = 6 ∨ j = 7 ∨ j = 8 ∨ j = 9 ∨ j = 10 by omega) with rfl | rfl | rfl | rfl | rfl | rfl | rfl | rfl | rfl | rfl | rfl
      · exact va_eqt (hs (.eq (.elem (.static "NumberSetDesk" "FIRST_OF_SET_2" "[I") (.int 0)) (.int 1)) (by decide +kernel))
      · exact va_eqt (hs (.eq (.elem (.static "NumberSetDesk" "FIRST_OF_SET_2" "[I") (.int 1)) (.int 2)) (by decide +kernel))
      · exact va_eqt (hs (.eq (.elem (.static "NumberSetDesk" "FIRST_OF_SET_2" "[I") (.int 2)) (.int 3)) (by decide +kernel))
      · exact va_eqt (hs (.eq (.elem (.static "NumberSetDesk" "FIRST_OF_SET_2" "[I") (.int 3)) (.int 5)) (by decide +kernel))
      · exact va_eqt (hs (.eq (.elem (.static "NumberSetDesk" "FIRST_OF_SET_2" "[I") (.int 4)) (.int 8)) (by decide +kernel))
      · exact va_eqt (hs (.eq (.elem (.static "NumberSetDesk" "FIRST_OF_SET_2" "[I") (.int 5)) (.int 13)) (by decide +kernel))
      · exact va_eqt (hs (.eq (.elem (.static "NumberSetDesk" "FIRST_OF_SET_2" "[I") (.int 6)) (.int 21)) (by decide +kernel))
      · exact va_eqt (hs (.eq (.elem (.static "NumberSetDesk" "FIRST_OF_SET_2" "[I") (.int 7)) (.int 63)) (by decide +kernel))
      · exact va_eqt (hs (.eq (.elem (.static "NumberSetDesk" "FIRST_OF_SET_2" "[I") (.int 8)) (.int 64)) (by decide +kernel))
      · exact va_eqt (hs (.eq (.elem (.static "NumberSetDesk" "FIRST_OF_SET_2" "[I") (.int 9)) (.int 127)) (by decide +kernel))
      · exact va_eqt (hs (.eq (.elem (.static "NumberSetDesk" "FIRST_OF_SET_2" "[I") (.int 10)) (.int 128)) (by decide +kernel))) hA
  refine ⟨t, ⟨va_AO.of (A := #[Value.ref b]) (hts (.arrayOver (.object RX2)) (by decide +kernel)), va_Nw.of rfl (hts (.methodLinkNest RX1 13 yX5_init "NumberSetDesk") (by decide +kernel)), va_Nw.of rfl (hts (.methodLinkNest RX1 35 yX2_init "NumberSetDesk") (by decide +kernel))⟩, va_AO.of (A := #[Value.ref b]) (hts (.arrayOver (.object RX0)) (by decide +kernel)), va_Nw.of rfl (hts (.methodLinkNest RX6 15 yX0_init "NumberSetDesk") (by decide +kernel)), va_Nw.of rfl (hts (.methodLinkNest RX6 30 yX3_init "NumberSetDesk") (by decide +kernel)), va_Nw.of rfl (hts (.methodLinkNest RX6 44 yX4_init "NumberSetDesk") (by decide +kernel)), va_Zref (hts (.laysStatic "NumberSetDesk" "FIRST_OF_SET_2" "[I") (by decide +kernel)) (hts (.initialized "NumberSetDesk") (by decide +kernel)) ht hA, hT⟩
set_option maxHeartbeats 8000000 in
set_option maxRecDepth 100000 in
theorem law_K {s : State} {b : Nat} (hts : ∀ w ∈ lw_tbl, w.before #[Value.ref b] s = true) : ∃ (D : va_G) (C : Nat → ClassId) (cD : ClassId), va_K D vwCl (TY C) s ∧ va_K D vwCl [(cD, .double)] s := by
  obtain ⟨c0, iS0, hKn0⟩ := u_known (C := RX0) (T := TX0) (N := 1) (n := 1) hts (fun w h => wsL_law_in w (inlX0 w h)) (hts (.instantiable RX0 1) (by decide +kernel))
  obtain ⟨c1, iS1, hKn1⟩ := u_known (C := RX1) (T := TX1) (N := 5) (n := 5) hts (fun w h => wsL_law_in w (inlX1 w h)) (hts (.instantiable RX1 5) (by decide +kernel))
  obtain ⟨c2, iS2, hKn2⟩ := u_known (C := RX2) (T := TX2) (N := 4) (n := 4) hts (fun w h => wsL_law_in w (inlX2 w h)) (hts (.instantiable RX2 4) (by decide +kernel))
  obtain ⟨c3, iS3, hKn3⟩ := u_known (C := RX3) (T := TX3) (N := 2) (n := 2) hts (fun w h => wsL_law_in w (inlX3 w h)) (hts (.instantiable RX3 2) (by decide +kernel))
  obtain ⟨c4, iS4, hKn4⟩ := u_known (C := RX4) (T := TX4) (N := 2) (n := 2) hts (fun w h => wsL_law_in w (inlX4 w h)) (hts (.instantiable RX4 2) (by decide +kernel))
  obtain ⟨c5, iS5, hKn5⟩ := u_known (C := RX5) (T := TX5) (N := 6) (n := 6) hts (fun w h => wsL_law_in w (inlX5 w h)) (hts (.instantiable RX5 6) (by decide +kernel))
  obtain ⟨c6, iS6, hKn6⟩ := u_known (C := RX6) (T := TX6) (N := 7) (n := 7) hts (fun w h => wsL_law_in w (inlX6 w h)) (hts (.instantiable RX6 7) (by decide +kernel))
  obtain ⟨c7, iS7, hKn7⟩ := u_known (C := RX7) (T := TX7) (N := 21) (n := 21) hts (fun w h => wsL_law_in w (inlX7 w h)) (hts (.instantiable RX7 21) (by decide +kernel))
  obtain ⟨dC, dI, hKc⟩ : ∃ (dC : Nat → ClassId) (dI : Nat → Nat → Nat), ∀ (k : Nat) (q : vw_C), vwCl[k]? = some q → u_Kn s q.1 q.2.1 q.2.2 (dC k) (dI k) := by
    refine ⟨fun k => if k = 0 then c0 else if k = 1 then c1 else if k = 2 then c2 else if k = 3 then c3 else if k = 4 then c4 else if k = 5 then c5 else if k = 6 then c6 else c7, fun k => if k = 0 then iS0 else if k = 1 then iS1 else if k = 2 then iS2 else if k = 3 then iS3 else if k = 4 then iS4 else if k = 5 then iS5 else if k = 6 then iS6 else iS7, ?_⟩
    intro k q hq
    match k, hq with
    | 0, hq => cases hq; exact hKn0
    | 1, hq => cases hq; exact hKn1
    | 2, hq => cases hq; exact hKn2
    | 3, hq => cases hq; exact hKn3
    | 4, hq => cases hq; exact hKn4
    | 5, hq => cases hq; exact hKn5
    | 6, hq => cases hq; exact hKn6
    | 7, hq => cases hq; exact hKn7
    | k + 8, hq => simp [vwCl] at hq
  obtain ⟨a0, p0, r0⟩ := ka_char (hts (.arrayClass .char) (by decide +kernel))
  obtain ⟨a1, p1, r1⟩ := ka_int (hts (.arrayClass .int) (by decide +kernel))
  obtain ⟨a2, p2, r2⟩ := ka_long (hts (.arrayClass .long) (by decide +kernel))
  obtain ⟨a3, p3, r3⟩ := ka_boolean (hts (.arrayClass .boolean) (by decide +kernel))
  obtain ⟨a4, p4, r4⟩ := ka_obj (hts (.arrayOver (.object RX0)) (by decide +kernel))
  obtain ⟨a5, p5, r5⟩ := ka_obj (hts (.arrayOver (.object RX2)) (by decide +kernel))
  obtain ⟨a6, p6, r6⟩ := ka_double (hts (.arrayClass .double) (by decide +kernel))
  refine ⟨(dC, dI), fun k => if k = 0 then a0 else if k = 1 then a1 else if k = 2 then a2 else if k = 3 then a3 else if k = 4 then a4 else a5, a6, ⟨hKc, fun k q hq => ?_⟩, ⟨hKc, fun k q hq => ?_⟩⟩
  · match k, hq with
    | 0, hq => cases hq; exact ⟨p0, r0⟩
    | 1, hq => cases hq; exact ⟨p1, r1⟩
    | 2, hq => cases hq; exact ⟨p2, r2⟩
    | 3, hq => cases hq; exact ⟨p3, r3⟩
    | 4, hq => cases hq; exact ⟨p4, r4⟩
    | 5, hq => cases hq; exact ⟨p5, r5⟩
    | k + 6, hq => simp [TY] at hq
  · match k, hq with
    | 0, hq => cases hq; exact ⟨p6, r6⟩
    | k + 1, hq => simp at hq
