section LWS
variable {p : Program} {l : Launch} {e : Env} {R : Room} {s : State} {m : MethodId} {args : Array Value} {below : List Frame} {meth : Method} {c : Code} {cells slots : Nat} {Q : State → Prop} {n : Nat} {lv lv' : List (Nat × Value)} {st st0 : List Value} {cc : ByteArray} {Ts : List Cond} {own : String} {D : va_G} {C : Nat → ClassId} {K ad : Nat → Nat} {kL kH : Nat} {x : Int32} {u : CSt} {b : Nat → Bool} {q : LSt} {F : Nat → Int32} {hs : Nat → Bool} {G T : Nat → Nat → Int32} {mc ms : Nat}
theorem LMi_ofW {y : MethodName} {ws ws' : List Cond} {rm : Room} {As : List Value} {post : Int32 → LSt → Prop} {maxL : Nat} {ret : Option FieldType} {hh : List (Nat × Nat × Nat × Nat)} (hw : ws = Cond.codeWith y cc maxL ret hh :: ws') (hy : plainName y.cls = true) (hn : (lg_sl (.ref kL :: As)).length ≤ maxL) (hlv : lv_args 0 (.ref kL :: As) = lv)
  (body : ∀ (p : Program) (e : Env) (s : State) (m : MethodId) (args : Array Value) (below : List Frame) (meth : Method) (c : Code), CCx p s m args c cc ws y.cls D C → LAm ad (zz_A (LZ K kL kH) s.heap.size) s → c.exceptionTable.toList = tableOf hh → c.maxLocals = maxL → meth.sig.returnType = ret → meth.locks = false → ZZ p l e rm s m args below meth c 0 0 (MQ below (va_Qi post (LWB D C K kL kH) (zz_A (LZ K kL kH) s.heap.size)) args s mc ms (zz_A (LZ K kL kH) s.heap.size)) (zz_A (LZ K kL kH) s.heap.size) (LPo D C K kL kH (x, (F, hs, G, T), b)) maxL lv [] 0) : LMi l y ws rm D C K kL kH ad mc ms As x F hs G T b post := by
  intro sz
  have hmem : Cond.codeWith y cc maxL ret hh ∈ ws := by
    rw [hw]
    exact List.mem_cons_self
  refine va_MetW (cc := cc) (maxL := maxL) (ret := ret) (hh := hh) hy hw ?_
  intro p e s m args below meth c s₁ B hml hv
  obtain ⟨ha, hsz, hP, hK, hA⟩ := hv
  subst ha
  subst hsz
  have h1 := vx_table (x := y) B (atoms_spec (ws := ws) B.pre _ hmem)
  have h2 : CCx p s m _ c cc ws y.cls D C := ⟨⟨B.exec, B.bytes⟩, atoms_spec (ws := ws) B.pre, findClass_of_methodNamed B.named, hK⟩
  exact zz_enter (.ref kL :: As) maxL hn hlv hP (body p e s m _ below meth c h2 hA.at h1 hml B.returns B.notSynchronized)
theorem ll_callLiW (pc : Nat) (X : CCx p s m args c cc Ts own D C) (hLA : LAm ad (zz_A (LZ K kL kH) s.heap.size) s) (hml : c.maxLocals = n) {y : MethodName} {ws ws' : List Cond} {rm : Room} {As : List Value} {post : Int32 → LSt → Prop} {maxL index na : Nat} {ret : Option FieldType} {hh : List (Nat × Nat × Nat × Nat)} {bytes : ByteArray} (hM : LMi l y ws rm D C K kL kH ad mc ms As x F hs G T b post) (g : GoodIn Ts (wsV own index RL y ws)) (hw : ws = Cond.codeWith y bytes maxL ret hh :: ws') (hr : rm.cells = mc ∧ rm.slots = ms)
  (hd1 : y.cls = RL ∧ y.cls ≠ "java/lang/invoke/MethodHandle" ∧ y.cls ≠ "java/lang/invoke/VarHandle" ∧ (parseMethodDescriptor y.desc).map (fun d => d.parameters.length) = some na) (hR : rm.frames + 1 ≤ R.frames ∧ 8 + (maxL + 11) + rm.locals ≤ R.locals) (hn : As.length = na) (hs0 : st0 = As.reverse ++ .ref kL :: st) (hwd : (st.map fun v => v.category).sum ≤ 8) (hf : cells + mc ≤ R.cells ∧ slots + ms ≤ R.slots) (hd : decode cc pc = .ok (.invokevirtual index, 3))
  (kk : ∀ (r : Int32) (q : LSt), post r q → ZZ p l e R s m args below meth c (cells + mc) (slots + ms) Q (zz_A (LZ K kL kH) s.heap.size) (LPo D C K kL kH q) n lv (.int r :: st) (pc + 3)) : ZZ p l e R s m args below meth c cells slots Q (zz_A (LZ K kL kH) s.heap.size) (LPo D C K kL kH (x, (F, hs, G, T), b)) n lv st0 pc := by
  subst hs0
  intro H locs ls hP hS hl
  have hF : ∀ q, zz_A (LZ K kL kH) H.size q → (zz_A (LZ K kL kH) s.heap.size) q := fun q h => h.elim (fun h => Or.inl h) (fun h => Or.inr (Nat.le_trans hS.1 h))
  refine va_calli (vx_runVW ⟨X.1.1, X.1.2, hml, X.2.2.1, X.2.1⟩ (hM H.size) (vx_cwVW na X.2.1 g hw hr.1 hr.2 hd1 hR) ⟨fun a U g mk q => ⟨q.1, q.2.1, q.2.2.1, va_K.moved (u := U) (U := U.calling g mk a) (Vm.Alike.refl U.vm) q.2.2.2.1, q.2.2.2.2.calling⟩, lr_L X H hP, fun U hU hW => ⟨rfl, by rw [hU], by rw [hU]; exact hP, va_K.moved hW.alike X.2.2.2, (hLA.moved hW (by rw [hU]; exact hS)).narrow (fun q h => Or.inl h)⟩⟩ rfl hn hl.1 rfl (lv_room hwd) hd hf) hS (fun q _ h => hF q h) hF (fun r q t H1 locs1 ht hvm hpo hB hz hk hS1 => ?_)
  subst ht
  exact kk r q hpo t.heap locs1 ls hB hS1 hl
end LWS
theorem ct_one {k : Nat} {v : Bool} : ∀ n, ct (fun i => decide (i = k) && v) n = if k < n ∧ v = true then 1 else 0
  | 0 => by simp [ct]
  | n + 1 => by
    have ih := ct_one (k := k) (v := v) n
    simp only [ct]
    rw [ih]
    rcases zb_tf v with z | z
    · subst z
      by_cases h : n = k
      · subst h
        simp
      · by_cases h2 : k < n
        · simp [h, h2, show k < n + 1 by omega]
        · simp [h, h2, show ¬ k < n + 1 by omega]
    · subst z
      simp
theorem pA_flip {q r : Nat → Bool} {k : Nat} (hk : k < 1024) (h : ∀ i, i < 1024 → r i = p1 q k (!q k) i) : ct (pA r q true false) 1024 + ct (pA r q false true) 1024 = 1 := by
  have e1 : ct (pA r q true false) 1024 = ct (fun i => decide (i = k) && !q k) 1024 := ct_cong (fun i hi => by
    unfold pA
    rw [h i hi]
    unfold p1
    by_cases z : i = k
    · subst z
      rcases zb_tf (q i) with y | y <;> simp [y]
    · rcases zb_tf (q i) with y | y <;> simp [y, z])
  have e2 : ct (pA r q false true) 1024 = ct (fun i => decide (i = k) && q k) 1024 := ct_cong (fun i hi => by
    unfold pA
    rw [h i hi]
    unfold p1
    by_cases z : i = k
    · subst z
      rcases zb_tf (q i) with y | y <;> simp [y]
    · rcases zb_tf (q i) with y | y <;> simp [y, z])
  rw [e1, e2, ct_one, ct_one]
  rcases zb_tf (q k) with y | y <;> simp [y, hk]
theorem m1_sub {k : Nat} (h : k < 1024) : ((-1 : Int32) - nI k).toInt = -1 - (k : Int) := by
  rw [Int32.toInt_sub, nI_toInt (by omega), show (-1 : Int32).toInt = -1 from rfl, Int.bmod_eq_of_le (by omega) (by omega)]
abbrev rm_L_isApart : Room := { frames := 11, cells := 3, slots := 18, locals := 205 }
theorem yd_L_isApart : yL_isApart.cls = RL ∧ yL_isApart.cls ≠ "java/lang/invoke/MethodHandle" ∧ yL_isApart.cls ≠ "java/lang/invoke/VarHandle" ∧ (parseMethodDescriptor yL_isApart.desc).map (fun d => d.parameters.length) = some 0 := by decide +kernel
set_option maxHeartbeats 4000000 in
set_option maxRecDepth 100000 in
theorem kt_L_isApart (l : Launch) (hl : l.stackTraces = false) (D : va_G) (C : Nat → ClassId) (K : Nat → Nat) (kL kH : Nat) (ad : Nat → Nat) (hAp : LAp K kL kH) (x : Int32) (F : Nat → Int32) (hs : Nat → Bool) (G T : Nat → Nat → Int32) (b : Nat → Bool)  (hrd : RD hs b) : LMi l yL_isApart wsL_isApart rm_L_isApart D C K kL kH ad 3 18 [] x F hs G T b (fun (r : Int32) (q : LSt) => ∃ (x1 : Int32) (F1 : Nat → Int32) (hs1 : Nat → Bool), r = (bI true) ∧ q = (x1, (F1, hs1, G, T), b)) := by
  refine LMi_ofW (lv := [(0, .ref kL)]) (cc := cL_isApart) (maxL := 5) (ret := (some .boolean)) (hh := [(92, 105, 108, 252), (113, 125, 128, 252), (133, 143, 146, 254)]) rfl (by decide +kernel) (Nat.le_of_ble_eq_true rfl) rfl ?_
  intro p e s m args below meth c X hLA ht hml hr hlk
  have mL0 : ∀ w ∈ wsL0, w ∈ wsL_isApart := by decide +kernel
  have mF : Cond.fieldLink yL_isApart.cls 10 RL (TL 1).2.1 (TL 1).2.2.1 ∈ wsL_isApart := by decide +kernel
  generalize hQ : MQ below _ args s 3 18 _ = Q
  refine zz_aload_n 0 X.1 0 dL_isApart_0 rfl ?_
  refine zz_iconst 1 X.1 (v := nI 5) dL_isApart_1 rfl ?_
  refine zz_iconst 2 X.1 (v := nI 0) dL_isApart_2 rfl ?_
  refine zz_iconst 3 X.1 (v := nI 0) dL_isApart_3 rfl ?_
  refine ll_callLv 4 X hLA hml (As := [.int (nI 5), .int (nI 0), .int (bI false)]) (kt_L_copies l D C K kL kH ad hAp x F hs G T b 5 0 false (by first | rfl | assumption | omega) (by first | rfl | assumption | omega)) gL_isApart_L_copies rfl ⟨rfl, rfl⟩ yd_L_copies ⟨Nat.le_of_ble_eq_true rfl, Nat.le_of_ble_eq_true rfl⟩ rfl rfl (Nat.le_of_ble_eq_true rfl) ⟨Nat.le_of_ble_eq_true rfl, Nat.le_of_ble_eq_true rfl⟩ dL_isApart_4 ?_
  rintro ⟨x1, ⟨F1, hs1, G1, T1⟩, b1⟩ hu1
  have hv1 := hu1
  cases hv1
  refine zz_world (P' := (LPo D C K kL kH (x, (F, (sS hs 5 (fun i => false ^^ hM hs 0 i)), G, T), b))) (fun _ h => h) ?_
  obtain ⟨hs2, eh2⟩ : ∃ h, h = sS hs 5 (fun i => false ^^ hM hs 0 i) := ⟨_, rfl⟩
  refine zz_world (P' := (LPo D C K kL kH (x, (F, hs2, G, T), b))) (lp_hs eh2.symm) ?_
  have g2_5 : ∀ i, i < 1024 → hM hs2 5 i = ((hM hs 0 i)) := fun i hi => (by rw [eh2]; exact hM_sS hi : hM hs2 5 i = (fun i => false ^^ hM hs 0 i) i).trans ((fun i hi => (Bool.false_xor _).trans ((fun _ _ => rfl) i hi)) i hi)
  have g2_0 : ∀ i, i < 1024 → hM hs2 0 i = (hM hs 0 i) := fun i hi => (by rw [eh2]; exact hM_sSo (by omega) hi : hM hs2 0 i = hM hs 0 i).trans ((fun _ _ => rfl) i hi)
  have rd2 : RD hs2 b := eh2 ▸ RD_sS hrd (by omega)
  refine zz_aload_n 7 X.1 0 dL_isApart_7 rfl ?_
  refine zz_sipush 8 X.1 (v := nI 1024) dL_isApart_8 rfl ?_
  refine ll_callLi 11 X hLA hml (As := [.int (nI 1024)]) (kt_L_next l D C K kL kH ad hAp x F hs2 G T b 1024 (by first | rfl | assumption | omega)) gL_isApart_L_next rfl ⟨rfl, rfl⟩ yd_L_next ⟨Nat.le_of_ble_eq_true rfl, Nat.le_of_ble_eq_true rfl⟩ rfl rfl (Nat.le_of_ble_eq_true rfl) ⟨Nat.le_of_ble_eq_true rfl, Nat.le_of_ble_eq_true rfl⟩ dL_isApart_11 ?_
  rintro r3 ⟨x3, ⟨F3, hs3, G3, T3⟩, b3⟩ hu3
  obtain ⟨k1_3, x1_3, rfl, hv3, hf3_0⟩ := hu3
  cases hv3
  refine zz_world (P' := (LPo D C K kL kH (x3, (F, hs2, G, T), b))) (fun _ h => h) ?_
  refine zz_istore_n 14 X.1 (lv' := [(1, .int (nI k1_3)), (0, .ref kL)]) dL_isApart_14 (by decide) rfl ?_
  refine zz_aload_n 15 X.1 1 dL_isApart_15 rfl ?_
  refine ll_get 16 X mL0 1 (by decide) (v := .ref (K 0)) rfl mF rfl dL_isApart_16 ?_
  refine zz_iconst 19 X.1 (v := nI 5) dL_isApart_19 rfl ?_
  refine zz_iload_n 20 X.1 0 dL_isApart_20 rfl ?_
  refine ll_callDi 21 X hml hAp (As := [.int (nI 5), .int (nI k1_3)]) (kt_X6_flip_ok l D C K hAp.1 F hs2 G T 5 k1_3 (by first | rfl | assumption | omega) (by first | rfl | assumption | omega)) gL_isApart_X6_flip rfl ⟨rfl, rfl⟩ yd_X6_flip ⟨Nat.le_of_ble_eq_true rfl, Nat.le_of_ble_eq_true rfl⟩ rfl rfl (Nat.le_of_ble_eq_true rfl) ⟨Nat.le_of_ble_eq_true rfl, Nat.le_of_ble_eq_true rfl⟩ dL_isApart_21 ?_
  rintro r4 ⟨F4, hs4, G4, T4⟩ hu4
  obtain ⟨rfl, hv4⟩ := hu4
  cases hv4
  refine zz_world (P' := (LPo D C K kL kH (x3, (F, (sS hs2 5 (p1 (hM hs2 5) k1_3 (!hM hs2 5 k1_3))), G, T), b))) (fun _ h => h) ?_
  obtain ⟨hs5, eh5⟩ : ∃ h, h = sS hs2 5 (p1 (hM hs2 5) k1_3 (!hM hs2 5 k1_3)) := ⟨_, rfl⟩
  refine zz_world (P' := (LPo D C K kL kH (x3, (F, hs5, G, T), b))) (lp_hs eh5.symm) ?_
  have g5_5 : ∀ i, i < 1024 → hM hs5 5 i = (p1 (fun i => (hM hs 0 i)) k1_3 (!hM hs2 5 k1_3) i) := fun i hi => (by rw [eh5]; exact hM_sS hi : hM hs5 5 i = (p1 (hM hs2 5) k1_3 (!hM hs2 5 k1_3)) i).trans ((p1_cong g2_5) i hi)
  have g5_0 : ∀ i, i < 1024 → hM hs5 0 i = (hM hs 0 i) := fun i hi => (by rw [eh5]; exact hM_sSo (by omega) hi : hM hs5 0 i = hM hs2 0 i).trans (g2_0 i hi)
  have rd5 : RD hs5 b := eh5 ▸ RD_sS rd2 (by omega)
  refine zz_aload_n 24 X.1 1 dL_isApart_24 rfl ?_
  refine ll_get 25 X (by decide +kernel) 2 (by decide) (v := .ref kH) rfl (by decide +kernel) rfl dL_isApart_25 ?_
  refine zz_iconst 28 X.1 (v := nI 0) dL_isApart_28 rfl ?_
  refine zz_iload_n 29 X.1 0 dL_isApart_29 rfl ?_
  refine zz_iadd 30 X.1 (v := (nI (0 + k1_3))) dL_isApart_30 (nI_add _ _) ?_
  refine ll_bald 31 X (i := 0 + k1_3) (by omega) dL_isApart_31 ?_
  have hk4 : k1_3 < 1024 := by omega
  have eb : b (0 + k1_3) = hM hs 0 k1_3 := (hrd _ (by omega)).trans (congrArg hs (by omega))
  have e5 : hM hs2 5 k1_3 = hM hs 0 k1_3 := g2_5 k1_3 hk4
  have hd1 := pA_flip (q := hM hs5 0) (r := hM hs5 5) hk4 (fun i hi => (g5_5 i hi).trans (by rw [e5, ← g5_0 k1_3 hk4]; exact p1_cong (fun i hi => (g5_0 i hi).symm) i hi))
  refine zz_icmpB_eq 32 80 X.1 dL_isApart_32 (by decide) (fun h32 => ?_) (fun h32 => ?_)
  · exfalso; rw [eb, e5] at h32; rcases zb_tf (hM hs 0 k1_3) with z | z <;> rw [z] at h32 <;> exact absurd h32 (by decide)
  · skip
    refine zz_aload_n 35 X.1 1 dL_isApart_35 rfl ?_
    refine ll_get 36 X mL0 1 (by decide) (v := .ref (K 0)) rfl mF rfl dL_isApart_36 ?_
    refine zz_iconst 39 X.1 (v := nI 5) dL_isApart_39 rfl ?_
    refine zz_iconst 40 X.1 (v := nI 0) dL_isApart_40 rfl ?_
    refine ll_callDi 41 X hml hAp (As := [.int (nI 5), .int (nI 0)]) (kt_X6_areEqual_ok l D C K hAp.1 F hs5 G T 5 0 (by first | rfl | assumption | omega) (by first | rfl | assumption | omega)) gL_isApart_X6_areEqual rfl ⟨rfl, rfl⟩ yd_X6_areEqual ⟨Nat.le_of_ble_eq_true rfl, Nat.le_of_ble_eq_true rfl⟩ rfl rfl (Nat.le_of_ble_eq_true rfl) ⟨Nat.le_of_ble_eq_true rfl, Nat.le_of_ble_eq_true rfl⟩ dL_isApart_41 ?_
    rintro r6 ⟨F6, hs6, G6, T6⟩ hu6
    obtain ⟨rfl, hv6⟩ := hu6
    cases hv6
    refine zz_world (P' := (LPo D C K kL kH (x3, (F, hs5, G, T), b))) (fun _ h => h) ?_
    refine zz_ifB_ne 44 80 X.1 dL_isApart_44 (by decide) (fun h44 => ?_) (fun h44 => ?_)
    · exfalso; exact absurd (of_decide_eq_true h44) (by omega)
    · skip
      refine zz_aload_n 47 X.1 1 dL_isApart_47 rfl ?_
      refine ll_get 48 X mL0 1 (by decide) (v := .ref (K 0)) rfl mF rfl dL_isApart_48 ?_
      refine zz_iconst 51 X.1 (v := nI 5) dL_isApart_51 rfl ?_
      refine zz_iconst 52 X.1 (v := nI 0) dL_isApart_52 rfl ?_
      refine ll_callDi 53 X hml hAp (As := [.int (nI 5), .int (nI 0)]) (kt_X6_distance_ok l D C K hAp.1 F hs5 G T 5 0 (by first | rfl | assumption | omega) (by first | rfl | assumption | omega)) gL_isApart_X6_distance rfl ⟨rfl, rfl⟩ yd_X6_distance ⟨Nat.le_of_ble_eq_true rfl, Nat.le_of_ble_eq_true rfl⟩ rfl rfl (Nat.le_of_ble_eq_true rfl) ⟨Nat.le_of_ble_eq_true rfl, Nat.le_of_ble_eq_true rfl⟩ dL_isApart_53 ?_
      rintro r7 ⟨F7, hs7, G7, T7⟩ hu7
      obtain ⟨rfl, hv7⟩ := hu7
      cases hv7
      refine zz_world (P' := (LPo D C K kL kH (x3, (F, hs5, G, T), b))) (fun _ h => h) ?_
      refine zz_iconst 56 X.1 (v := nI 1) dL_isApart_56 rfl ?_
      have hcb8_0 := ct_le (pA (hM hs5 5) (hM hs5 0) false true) 1024
      have hcb8_1 := ct_le (pA (hM hs5 5) (hM hs5 0) true false) 1024
      refine zz_icmp_ne 57 80 X.1 (nI_toInt (by omega)) (nI_toInt (by omega)) dL_isApart_57 (by decide) (fun h57 => ?_) (fun h57 => ?_)
      · exfalso; omega
      · skip
        refine zz_aload_n 60 X.1 1 dL_isApart_60 rfl ?_
        refine ll_get 61 X mL0 1 (by decide) (v := .ref (K 0)) rfl mF rfl dL_isApart_61 ?_
        refine zz_iconst 64 X.1 (v := nI 0) dL_isApart_64 rfl ?_
        refine zz_iload_n 65 X.1 0 dL_isApart_65 rfl ?_
        refine ll_callDi 66 X hml hAp (As := [.int (nI 0), .int (nI k1_3)]) (kt_X6_has_ok l D C K hAp.1 F hs5 G T 0 k1_3 (by first | rfl | assumption | omega) (by first | rfl | assumption | omega)) gL_isApart_X6_has rfl ⟨rfl, rfl⟩ yd_X6_has ⟨Nat.le_of_ble_eq_true rfl, Nat.le_of_ble_eq_true rfl⟩ rfl rfl (Nat.le_of_ble_eq_true rfl) ⟨Nat.le_of_ble_eq_true rfl, Nat.le_of_ble_eq_true rfl⟩ dL_isApart_66 ?_
        rintro r9 ⟨F9, hs9, G9, T9⟩ hu9
        obtain ⟨rfl, hv9⟩ := hu9
        cases hv9
        refine zz_world (P' := (LPo D C K kL kH (x3, (F, hs5, G, T), b))) (fun _ h => h) ?_
        refine zz_aload_n 69 X.1 1 dL_isApart_69 rfl ?_
        refine ll_get 70 X (by decide +kernel) 2 (by decide) (v := .ref kH) rfl (by decide +kernel) rfl dL_isApart_70 ?_
        refine zz_iconst 73 X.1 (v := nI 0) dL_isApart_73 rfl ?_
        refine zz_iload_n 74 X.1 0 dL_isApart_74 rfl ?_
        refine zz_iadd 75 X.1 (v := (nI (0 + k1_3))) dL_isApart_75 (nI_add _ _) ?_
        refine ll_bald 76 X (i := 0 + k1_3) (by omega) dL_isApart_76 ?_
        refine zz_icmpB_eq 77 82 X.1 dL_isApart_77 (by decide) (fun h77 => ?_) (fun h77 => ?_)
        · skip
          refine zz_aload_n 82 X.1 1 dL_isApart_82 rfl ?_
          refine ll_get 83 X mL0 1 (by decide) (v := .ref (K 0)) rfl mF rfl dL_isApart_83 ?_
          refine ll_callDi 86 X hml hAp (As := []) (kt_X6_refusals_ok l D C K hAp.1 F hs5 G T ) gL_isApart_X6_refusals rfl ⟨rfl, rfl⟩ yd_X6_refusals ⟨Nat.le_of_ble_eq_true rfl, Nat.le_of_ble_eq_true rfl⟩ rfl rfl (Nat.le_of_ble_eq_true rfl) ⟨Nat.le_of_ble_eq_true rfl, Nat.le_of_ble_eq_true rfl⟩ dL_isApart_86 ?_
          rintro r10 ⟨F10, hs10, G10, T10⟩ hu10
          obtain ⟨rfl, hv10⟩ := hu10
          cases hv10
          refine zz_world (P' := (LPo D C K kL kH (x3, (F, hs5, G, T), b))) (fun _ h => h) ?_
          refine zz_istore_n 89 X.1 (lv' := [(2, .int (F 2)), (1, .int (nI k1_3)), (0, .ref kL)]) dL_isApart_89 (by decide) rfl ?_
          refine zz_iconst 90 X.1 (v := nI 0) dL_isApart_90 rfl ?_
          refine zz_istore_n 91 X.1 (lv' := [(3, .int (nI 0)), (2, .int (F 2)), (1, .int (nI k1_3)), (0, .ref kL)]) dL_isApart_91 (by decide) rfl ?_
          refine zz_aload_n 92 X.1 3 dL_isApart_92 rfl ?_
          refine ll_get 93 X mL0 1 (by decide) (v := .ref (K 0)) rfl mF rfl dL_isApart_93 ?_
          refine zz_iconst 96 X.1 (v := nI 0) dL_isApart_96 rfl ?_
          refine zz_iload_n 97 X.1 2 dL_isApart_97 rfl ?_
          refine zz_iconst 98 X.1 (v := nI 1) dL_isApart_98 rfl ?_
          refine zz_iadd 99 X.1 (v := (nI (k1_3 + 1))) dL_isApart_99 (nI_add _ _) ?_
          refine zz_iload_n 100 X.1 2 dL_isApart_100 rfl ?_
          refine ll_callDX 101 X hLA hml hAp (As := [.int (nI 0), .int (nI (k1_3 + 1)), .int (nI k1_3)]) (kt_X6_flipRange_x2 l hl D C K hAp.1 F hs5 G T 0 (nI (k1_3 + 1)) (nI k1_3) ((k1_3 + 1 : Nat) : Int) ((k1_3 : Nat) : Int) (nI_toInt (by omega)) (nI_toInt (by omega)) (by first | rfl | assumption | omega) (by first | rfl | assumption | omega) (by first | rfl | assumption | omega)) gL_isApart_X6_flipRange rfl ⟨rfl, rfl⟩ yd_X6_flipRange ⟨Nat.le_of_ble_eq_true rfl, Nat.le_of_ble_eq_true rfl⟩ rfl rfl (Nat.le_of_ble_eq_true rfl) ⟨Nat.le_of_ble_eq_true rfl, Nat.le_of_ble_eq_true rfl⟩ dL_isApart_101 [] ⟨92, 105, 108, 252⟩ [⟨113, 125, 128, 252⟩, ⟨133, 143, 146, 254⟩] ht (fun z hz => absurd hz List.not_mem_nil) (by decide) (by decide) (name := "java/lang/IndexOutOfBoundsException") (by decide +kernel) (by decide +kernel) (hpc := 108) rfl (fun q11 => ?_)
          refine zz_world (P' := (LPo D C K kL kH (x3, ((upd F 2 (F 2 + 1)), hs5, G, T), b))) (fun _ h => h) ?_
          refine zz_astore 108 X.1 (lv' := [(4, .ref q11), (3, .int (nI 0)), (2, .int (F 2)), (1, .int (nI k1_3)), (0, .ref kL)]) dL_isApart_108 (by decide) rfl ?_
          refine zz_iinc 110 X.1 1 (v := (nI 1)) (lv' := [(3, .int (nI 1)), (4, .ref q11), (2, .int (F 2)), (1, .int (nI k1_3)), (0, .ref kL)]) dL_isApart_110 rfl (nI_add _ _) (by decide) rfl ?_
          refine zz_aload_n 113 X.1 4 dL_isApart_113 rfl ?_
          refine ll_get 114 X mL0 1 (by decide) (v := .ref (K 0)) rfl mF rfl dL_isApart_114 ?_
          refine zz_iconst 117 X.1 (v := nI 0) dL_isApart_117 rfl ?_
          refine zz_iconst 118 X.1 (v := (-1)) dL_isApart_118 (by decide) ?_
          refine zz_iload_n 119 X.1 3 dL_isApart_119 rfl ?_
          refine zz_isub 120 X.1 (v := ((-1) - (nI k1_3))) dL_isApart_120 rfl ?_
          refine ll_callDX 121 X hLA hml hAp (As := [.int (nI 0), .int ((-1) - (nI k1_3))]) (kt_X6_add_x2 l hl D C K hAp.1 (upd F 2 (F 2 + 1)) hs5 G T 0 ((-1) - (nI k1_3)) (-1 - ((k1_3 : Nat) : Int)) ((m1_sub (by omega))) (by first | rfl | assumption | omega) (by first | rfl | assumption | omega)) gL_isApart_X6_add rfl ⟨rfl, rfl⟩ yd_X6_add ⟨Nat.le_of_ble_eq_true rfl, Nat.le_of_ble_eq_true rfl⟩ rfl rfl (Nat.le_of_ble_eq_true rfl) ⟨Nat.le_of_ble_eq_true rfl, Nat.le_of_ble_eq_true rfl⟩ dL_isApart_121 [⟨92, 105, 108, 252⟩] ⟨113, 125, 128, 252⟩ [⟨133, 143, 146, 254⟩] ht (fun z hz => Or.inl (by simp only [List.mem_cons, List.not_mem_nil, or_false] at hz; subst hz; decide)) (by decide) (by decide) (name := "java/lang/IndexOutOfBoundsException") (by decide +kernel) (by decide +kernel) (hpc := 128) rfl (fun q12 => ?_)
          refine zz_world (P' := (LPo D C K kL kH (x3, ((upd (upd F 2 (F 2 + 1)) 2 ((upd F 2 (F 2 + 1)) 2 + 1)), hs5, G, T), b))) (fun _ h => h) ?_
          refine zz_astore 128 X.1 (lv' := [(4, .ref q12), (3, .int (nI 1)), (2, .int (F 2)), (1, .int (nI k1_3)), (0, .ref kL)]) dL_isApart_128 (by decide) rfl ?_
          refine zz_iinc 130 X.1 1 (v := (nI 2)) (lv' := [(3, .int (nI 2)), (4, .ref q12), (2, .int (F 2)), (1, .int (nI k1_3)), (0, .ref kL)]) dL_isApart_130 rfl (nI_add _ _) (by decide) rfl ?_
          refine zz_aload_n 133 X.1 4 dL_isApart_133 rfl ?_
          refine ll_get 134 X mL0 1 (by decide) (v := .ref (K 0)) rfl mF rfl dL_isApart_134 ?_
          refine zz_iconst 137 X.1 (v := nI 0) dL_isApart_137 rfl ?_
          refine zz_iconst 138 X.1 (v := (-1)) dL_isApart_138 (by decide) ?_
          refine ll_callDX 139 X hLA hml hAp (As := [.int (nI 0), .int (-1)]) (kt_X6_renew_x2 l hl D C K hAp.1 (upd (upd F 2 (F 2 + 1)) 2 ((upd F 2 (F 2 + 1)) 2 + 1)) hs5 G T 0 (-1) (-1) (by decide) (by first | rfl | assumption | omega) (by first | rfl | assumption | omega)) gL_isApart_X6_renew rfl ⟨rfl, rfl⟩ yd_X6_renew ⟨Nat.le_of_ble_eq_true rfl, Nat.le_of_ble_eq_true rfl⟩ rfl rfl (Nat.le_of_ble_eq_true rfl) ⟨Nat.le_of_ble_eq_true rfl, Nat.le_of_ble_eq_true rfl⟩ dL_isApart_139 [⟨92, 105, 108, 252⟩, ⟨113, 125, 128, 252⟩] ⟨133, 143, 146, 254⟩ [] ht (fun z hz => Or.inl (by simp only [List.mem_cons, List.not_mem_nil, or_false] at hz; rcases hz with rfl | rfl <;> decide)) (by decide) (by decide) (name := "java/lang/IllegalArgumentException") (by decide +kernel) (by decide +kernel) (hpc := 146) rfl (fun q13 => ?_)
          refine zz_world (P' := (LPo D C K kL kH (x3, ((upd (upd (upd F 2 (F 2 + 1)) 2 ((upd F 2 (F 2 + 1)) 2 + 1)) 2 ((upd (upd F 2 (F 2 + 1)) 2 ((upd F 2 (F 2 + 1)) 2 + 1)) 2 + 1)), hs5, G, T), b))) (fun _ h => h) ?_
          refine zz_astore 146 X.1 (lv' := [(4, .ref q13), (3, .int (nI 2)), (2, .int (F 2)), (1, .int (nI k1_3)), (0, .ref kL)]) dL_isApart_146 (by decide) rfl ?_
          refine zz_iinc 148 X.1 1 (v := (nI 3)) (lv' := [(3, .int (nI 3)), (4, .ref q13), (2, .int (F 2)), (1, .int (nI k1_3)), (0, .ref kL)]) dL_isApart_148 rfl (nI_add _ _) (by decide) rfl ?_
          refine zz_iload_n 151 X.1 0 dL_isApart_151 rfl ?_
          refine zz_iconst 152 X.1 (v := nI 3) dL_isApart_152 rfl ?_
          refine zz_icmp_ne 153 183 X.1 (nI_toInt (by omega)) (nI_toInt (by omega)) dL_isApart_153 (by decide) (fun h153 => ?_) (fun h153 => ?_)
          · exfalso; omega
          · skip
            refine zz_aload_n 156 X.1 4 dL_isApart_156 rfl ?_
            refine ll_get 157 X mL0 1 (by decide) (v := .ref (K 0)) rfl mF rfl dL_isApart_157 ?_
            refine ll_callDi 160 X hml hAp (As := []) (kt_X6_refusals_ok l D C K hAp.1 (upd (upd (upd F 2 (F 2 + 1)) 2 ((upd F 2 (F 2 + 1)) 2 + 1)) 2 ((upd (upd F 2 (F 2 + 1)) 2 ((upd F 2 (F 2 + 1)) 2 + 1)) 2 + 1)) hs5 G T ) gL_isApart_X6_refusals rfl ⟨rfl, rfl⟩ yd_X6_refusals ⟨Nat.le_of_ble_eq_true rfl, Nat.le_of_ble_eq_true rfl⟩ rfl rfl (Nat.le_of_ble_eq_true rfl) ⟨Nat.le_of_ble_eq_true rfl, Nat.le_of_ble_eq_true rfl⟩ dL_isApart_160 ?_
            rintro r14 ⟨F14, hs14, G14, T14⟩ hu14
            obtain ⟨rfl, hv14⟩ := hu14
            cases hv14
            refine zz_world (P' := (LPo D C K kL kH (x3, ((upd (upd (upd F 2 (F 2 + 1)) 2 ((upd F 2 (F 2 + 1)) 2 + 1)) 2 ((upd (upd F 2 (F 2 + 1)) 2 ((upd F 2 (F 2 + 1)) 2 + 1)) 2 + 1)), hs5, G, T), b))) (fun _ h => h) ?_
            refine zz_iload_n 163 X.1 2 dL_isApart_163 rfl ?_
            refine zz_iconst 164 X.1 (v := nI 3) dL_isApart_164 rfl ?_
            refine zz_iadd 165 X.1 (v := ((F 2) + (nI 3))) dL_isApart_165 rfl ?_
            refine zz_icmp_ne 166 183 X.1 rfl rfl dL_isApart_166 (by decide) (fun h166 => ?_) (fun h166 => ?_)
            · exfalso; exact h166 (congrArg Int32.toInt (by simp only [upd_eq]; rw [Int32.add_assoc, Int32.add_assoc]; rfl))
            · skip
              refine zz_aload_n 169 X.1 4 dL_isApart_169 rfl ?_
              refine zz_iconst 170 X.1 (v := nI 0) dL_isApart_170 rfl ?_
              refine zz_bipush 171 X.1 (v := nI 61) dL_isApart_171 rfl ?_
              refine ll_callLi 173 X hLA hml (As := [.int (nI 0), .int (nI 61)]) (kt_L_isMade l D C K kL kH ad hAp x3 (upd (upd (upd F 2 (F 2 + 1)) 2 ((upd F 2 (F 2 + 1)) 2 + 1)) 2 ((upd (upd F 2 (F 2 + 1)) 2 ((upd F 2 (F 2 + 1)) 2 + 1)) 2 + 1)) hs5 G T b 0 61 (by first | rfl | assumption | omega) (by first | rfl | assumption | omega) (fun i hi => (g5_0 i hi).trans ((show hs (1024 * 0 + i) = hs i from congrArg hs (by omega)).trans ((hrd i (by omega)).symm.trans rfl)))) gL_isApart_L_isMade rfl ⟨rfl, rfl⟩ yd_L_isMade ⟨Nat.le_of_ble_eq_true rfl, Nat.le_of_ble_eq_true rfl⟩ rfl rfl (Nat.le_of_ble_eq_true rfl) ⟨Nat.le_of_ble_eq_true rfl, Nat.le_of_ble_eq_true rfl⟩ dL_isApart_173 ?_
              rintro r15 ⟨x15, ⟨F15, hs15, G15, T15⟩, b15⟩ hu15
              obtain ⟨rfl, hv15⟩ := hu15
              cases hv15
              refine zz_world (P' := (LPo D C K kL kH (x3, ((upd (upd (upd F 2 (F 2 + 1)) 2 ((upd F 2 (F 2 + 1)) 2 + 1)) 2 ((upd (upd F 2 (F 2 + 1)) 2 ((upd F 2 (F 2 + 1)) 2 + 1)) 2 + 1)), hs5, G, T), b))) (fun _ h => h) ?_
              refine zz_ifB_eq 176 183 X.1 dL_isApart_176 (by decide) (fun h176 => ?_) (fun h176 => ?_)
              · exact absurd h176 (by decide)
              · skip
                refine zz_iconst 179 X.1 (v := nI 1) dL_isApart_179 rfl ?_
                refine zz_goto 180 184 X.1 dL_isApart_180 (by decide) ?_
                refine zz_topi (bI true) rfl ?_
                rw [← hQ]
                refine zz_widen (k := 3) (j := 18) (by decide) (by decide) ?_
                refine zz_iret 184 X.1 hr (bI_nar _) hlk (x3, ((upd (upd (upd F 2 (F 2 + 1)) 2 ((upd F 2 (F 2 + 1)) 2 + 1)) 2 ((upd (upd F 2 (F 2 + 1)) 2 ((upd F 2 (F 2 + 1)) 2 + 1)) 2 + 1)), hs5, G, T), b) ?_ (fun _ h _ => h) dL_isApart_184
                exact ⟨_, _, _, rfl, rfl⟩
        · exfalso; exact h77 (by rw [eb, g5_0 k1_3 hk4]; simp [hk4])
