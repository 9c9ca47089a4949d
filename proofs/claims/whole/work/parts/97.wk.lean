/-! The law walked. -/
section WKS
variable {p : Program} {l : Launch} {e : Env} {R : Room} {s : State} {m : MethodId} {args : Array Value} {below : List Frame} {meth : Method} {c : Code} {cells slots : Nat} {Q : State → Prop} {n : Nat} {lv lv' : List (Nat × Value)} {st st0 : List Value} {cc : ByteArray} {Ts : List Cond} {own : String} {D : va_G} {C : Nat → ClassId} {A : Nat → Prop} {ws : va_W}
theorem zl_callIP (pc : Nat) (X : CCx p s m args c cc Ts own D C) (hml : c.maxLocals = n) (hA : ∀ q, s.heap.size ≤ q → A q) {y : MethodName} {bytes : ByteArray} {maxL mc ms index : Nat} {ws' : List Cond} {rm : Room} {σ : Type} {wI : σ → va_W} {post : σ → Prop} {q0 : Nat} {e0 : va_E}
  (hM : ∀ sz : Nat, Met l y ws' rm (va_Pc [.ref q0] (zz_E (fun _ U => va_P D vwCl [(q0, e0)] U.heap ∧ va_K D vwCl (TY C) U) sz)) (va_Qv post (fun u t => LPw (zz_A (fun q => q = q0) sz) D (wI u) t.heap) (zz_A (fun q => q = q0) sz)) mc ms (zz_A (fun q => q = q0) sz))
  (cw : CallB R s args own index y bytes maxL none ws' rm mc ms 0 ∧ y.name = "<init>" ∧ (Cond.instanceMethod y).before args s = true) (hwd : (st.map fun v => v.category).sum ≤ 8) (hf : cells + mc ≤ R.cells ∧ slots + ms ≤ R.slots) (hd : decode cc pc = .ok (.invokespecial index, 3))
  (kk : ∀ u : σ, post u → ZZ p l e R s m args below meth c (cells + mc) (slots + ms) Q A (LPw A D (ws ++ wI u)) n lv st (pc + 3)) : ZZ p l e R s m args below meth c cells slots Q A (LPw A D (ws ++ [(q0, e0)])) n lv (.ref q0 :: st) pc := by
  intro H locs ls hP hS hl
  have hAq : A q0 := hP.2.2 ws.length (q0, e0) (by rw [List.getElem?_append_right (Nat.le_refl _), Nat.sub_self]; rfl)
  have hF : ∀ q, zz_A (fun q => q = q0) H.size q → A q := fun q h => h.elim (fun z => z ▸ hAq) (fun z => hA q (Nat.le_trans hS.1 z))
  have hne : ∀ (k : Nat) (x : Nat × va_E), ws[k]? = some x → x.1 < H.size ∧ x.1 ≠ q0 := fun k x hx => by
    have hk : k < ws.length := (List.getElem?_eq_some_iff.mp hx).1
    have h1 : (ws ++ [(q0, e0)])[k]? = some x := by rw [List.getElem?_append_left hk]; exact hx
    refine ⟨va_at.lt (hP.1 k x h1), fun z => ?_⟩
    have h2 := hP.2.1 k ws.length x (q0, e0) h1 (by rw [List.getElem?_append_right (Nat.le_refl _), Nat.sub_self]; rfl) z
    omega
  refine va_callv (va_runI (As := []) (rest := st) ⟨X.1.1, X.1.2, hml, X.2.2.1, X.2.1⟩ (hM H.size) cw ⟨fun a U g mk q => ⟨q.1, q.2.1, q.2.2.1, va_K.moved (u := U) (U := U.calling g mk a) (Vm.Alike.refl U.vm) q.2.2.2⟩, fun U hU hW => ⟨rfl, by rw [hU], by rw [hU]; exact P_right hP.1, va_K.moved hW.alike X.2.2.2⟩⟩ rfl rfl hl.1 rfl (lv_room hwd) hd hf) hS (fun q _ h => hF q h) hF (fun u t H1 locs1 ht hvm hpo hB hz hk hS1 => ?_)
  subst ht
  refine kk u hpo t.heap locs1 ls ⟨?_, ?_⟩ hS1 hl
  · exact (va_P.kept (P_left hP.1) (fun k q hq => hk q.1 (hne k q hq).1 (fun z => z.elim (hne k q hq).2 (fun z => absurd (hne k q hq).1 (Nat.not_lt.mpr z))))).app hB.1
  · refine va_D.app (D_left hP.2) (hB.2.weaken (fun _ q _ z => hF q.1 z)) (fun i j x y hx hy hxy => ?_)
    have h1 := hne i x hx
    have h2 := hB.2.2 j y hy
    rw [← hxy] at h2
    exact h2.elim h1.2 (fun z => absurd h1.1 (Nat.not_lt.mpr z))
end WKS
set_option maxHeartbeats 8000000 in
set_option maxRecDepth 100000 in
theorem law_walk {p : Program} {l : Launch} {e : Env} {s : State} {m : MethodId} {args : Array Value} {below : List Frame} {meth : Method} {c : Code} {Q : State → Prop} {D : va_G} {C : Nat → ClassId} {cD : ClassId} {adK adV : Nat → Nat} {tb b L : Nat} {xs : Nat → Int32} (X : CCx p s m args c cL_law wsL_law RL D C) (hml : c.maxLocals = 10) (hst : l.stackTraces = false) (hKd : va_K D vwCl [(cD, .double)] s) (hAM : AM (fun q => s.heap.size ≤ q) s) (hAS : ASx adK adV (fun q => s.heap.size ≤ q) s) (hNC : NCx s) (hN6 : NX6 tb (fun q => s.heap.size ≤ q) s) (hX : va_X b L xs s s.heap) (hbl : b < s.heap.size) (hL : L ≤ 4096)
    (hx : ∀ (K KR : Nat → Nat) (ao ad : Nat) (u : CSt) (v : MSt) (o : Int64) (od : UInt64) (cells slots i : Nat), cells ≤ 601024 → slots ≤ 7293033 → ZZ p l e room_1 s m args below meth c cells slots Q (fun q => s.heap.size ≤ q) (PL D C cD K KR ao ad u v o od) 10 (lvL b (K 0) (KR 0) ao ad i) [] 3994) : ZZ p l e room_1 s m args below meth c 0 0 Q (fun q => s.heap.size ≤ q) (LPw (fun q => s.heap.size ≤ q) D []) 10 [(0, .ref b)] [] 0 := by
  have hA : ∀ q : Nat, s.heap.size ≤ q → (fun q => s.heap.size ≤ q) q := fun q h => h
  refine zl_new 0 X hA (Cn := RX6) (T := TX6) (N := 7) (ci := 6) (fs := [.null, .null, .null, .null, .int 0, .int 0, .int 0]) inlX6 tyX6 tyX6_ok (index := 8) (by decide +kernel) (by decide +kernel) (by decide +kernel) rfl (by decide +kernel) ⟨Nat.le_of_ble_eq_true rfl, Nat.le_of_ble_eq_true rfl⟩ dL_law_0 ?_
  intro q1
  refine zz_dup 3 X.1 dL_law_3 rfl ?_
  refine zl_callIY 4 X hml hA (N := fun sz U => NX6 tb (zz_A (fun q => q = q1) sz) U) (fun sz U g mk a h => h.calling g mk a) (fun H locs U hq hS hU hW => NX6.moved (locs := locs) hW (by rw [hU]; exact hS) (fun q h => h.elim (fun h => h ▸ hq) (fun h => Nat.le_trans hS.1 h)) hN6) (kt_X6_init l D C q1 tb) (cwI 0 X.2.1 gL_law_X6_init rfl rfl rfl (X.2.1 (.initialized RX6) (by decide +kernel)) (X.2.1 (.methodLink RL 179 yX6_init) (by decide +kernel)) (X.2.1 (.instanceMethod yX6_init) (by decide +kernel)) rfl (by decide +kernel) ⟨Nat.le_of_ble_eq_true rfl, Nat.le_of_ble_eq_true rfl⟩) (Nat.le_of_ble_eq_true rfl) ⟨Nat.le_of_ble_eq_true rfl, Nat.le_of_ble_eq_true rfl⟩ dL_law_4 ?_
  intro K hK
  obtain ⟨e0, hU⟩ := hK
  subst e0
  refine zz_world (P' := LPw (fun q => s.heap.size ≤ q) D (DW C K cF0 (WH hs00) (fun _ _ => 0) (fun _ _ => 0))) (fun _ h => h) ?_
  refine zz_astore_n 7 X.1 dL_law_7 (by decide) (lv' := [(1, .ref (K 0)), (0, .ref b)]) rfl ?_
  refine zl_new 8 X hA (Cn := RX7) (T := TX7) (N := 21) (ci := 7) (fs := [.int 0, .null, .int 0, .null, .int 0, .int 0, .int 0, .int 0, .int 0, .null, .null, .null, .null, .null, .int 0, .int 0, .int 0, .int 0, .null, .null, .int 0]) inlX7 tyX7 tyX7_ok (index := 180) (by decide +kernel) (by decide +kernel) (by decide +kernel) rfl (by decide +kernel) ⟨Nat.le_of_ble_eq_true rfl, Nat.le_of_ble_eq_true rfl⟩ dL_law_8 ?_
  intro q2
  refine zz_dup 11 X.1 dL_law_11 rfl ?_
  refine zl_callIP 12 X hml hA (kt_X7_init l D C q2) (cwI 0 X.2.1 gL_law_X7_init rfl rfl rfl (X.2.1 (.initialized RX7) (by decide +kernel)) (X.2.1 (.methodLink RL 182 yX7_init) (by decide +kernel)) (X.2.1 (.instanceMethod yX7_init) (by decide +kernel)) rfl (by decide +kernel) ⟨Nat.le_of_ble_eq_true rfl, Nat.le_of_ble_eq_true rfl⟩) (Nat.le_of_ble_eq_true rfl) ⟨Nat.le_of_ble_eq_true rfl, Nat.le_of_ble_eq_true rfl⟩ dL_law_12 ?_
  intro KR e1
  subst e1
  refine zz_astore_n 15 X.1 dL_law_15 (by decide) (lv' := [(2, .ref (KR 0)), (1, .ref (K 0)), (0, .ref b)]) rfl ?_
  refine zz_iconst 16 X.1 (v := nI 1) dL_law_16 rfl ?_
  refine zl_newa 17 X hA 2 rfl rfl (by decide +kernel) (N' := 1) (a0 := (1, .inr (.inl (fun _ => 0)))) (fun _ => rfl) (by decide) (by decide) ⟨Nat.le_of_ble_eq_true rfl, Nat.le_of_ble_eq_true rfl⟩ dL_law_17 ?_
  intro ao
  refine zz_astore_n 19 X.1 dL_law_19 (by decide) (lv' := [(3, .ref ao), (2, .ref (KR 0)), (1, .ref (K 0)), (0, .ref b)]) rfl ?_
  refine zz_iconst 20 X.1 (v := nI 1) dL_law_20 rfl ?_
  refine zl_newd 21 X hKd hA (by decide +kernel) ⟨Nat.le_of_ble_eq_true rfl, Nat.le_of_ble_eq_true rfl⟩ dL_law_21 ?_
  intro ad
  refine zz_astore 23 X.1 dL_law_23 (by decide) (lv' := [(4, .ref ad), (3, .ref ao), (2, .ref (KR 0)), (1, .ref (K 0)), (0, .ref b)]) rfl ?_
  refine zz_iconst 25 X.1 (v := nI 0) dL_law_25 rfl ?_
  refine zz_istore 26 X.1 dL_law_26 (by decide) (lv' := [(5, .int (nI 0)), (4, .ref ad), (3, .ref ao), (2, .ref (KR 0)), (1, .ref (K 0)), (0, .ref b)]) rfl ?_
  refine zz_have (F := LAp (fun q => s.heap.size ≤ q) K KR ao ad) (fun H h => LAp_of (C := C) (F := cF0) (F2 := rF0) (W := WH hs00) (G := fun _ _ => 0) (T := fun _ _ => 0) (G2 := fun _ _ => 0) (hs := hs00) (mv := fun _ => false) (x := .inl (C 2, (1, .inr (.inl (fun _ => 0))))) (y := .inl (cD, 1, .inr (.inr (.inr (.inl (fun _ => 0)))))) hU h.2) ?_
  intro hLAp
  refine zz_world (P' := PL D C cD K KR ao ad (cF0, hs00, fun _ _ => 0, fun _ _ => 0) (rF0, hs00, fun _ => false, fun _ _ => 0) 0 0) (fun H h => ⟨P_left (P_left (P_left h.1)), P_right (P_left (P_left h.1)), P_right (P_left h.1), P_right h.1⟩) ?_
  refine zz_lvs [5, 4, 3, 2, 1, 0] (lv' := lvL b (K 0) (KR 0) ao ad 0) rfl ?_
  have Z : LCx p l s m args c meth (fun q => s.heap.size ≤ q) D C cD K KR adK adV ao ad b L xs := ⟨X, hml, hst, hKd, ⟨hAM, hAS, hNC⟩, hLAp, fun _ h => h, hX, hbl, Nat.not_le.mpr hbl, hL⟩
  exact law_loop Z (hx K KR ao ad) (L + 1) 0 _ _ _ _ 0 0 ⟨rfl, ⟨rfl, rfl, rfl⟩, ⟨rfl, rfl⟩, ⟨0, by omega, rfl, rfl, fun j hj => absurd hj (Nat.not_lt_zero j)⟩, ⟨0, by omega, rfl, rfl⟩⟩ (by omega) (by omega) (by omega) (by omega)
