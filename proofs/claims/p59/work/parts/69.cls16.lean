/-! The desk runs its tape. -/
section XRU
variable {p : Program} {l : Launch} {e : Env} {R : Room} {s : State} {m : MethodId} {args : Array Value} {below : List Frame} {meth : Method} {c : Code} {cells slots : Nat} {Q : State → Prop} {n : Nat} {lv lv' : List (Nat × Value)} {st st0 : List Value} {cc : ByteArray} {Ts : List Cond} {own : String} {D : va_G} {C : Nat → ClassId} {K : Nat → Nat} {F : Nat → Int32} {hs : Nat → Bool} {G T : Nat → Nat → Int32} {A : Nat → Prop} {adK adV : Nat → Nat} {P : Heap → Prop}
def XCP (D : va_G) (C : Nat → ClassId) (K : Nat → Nat) (E : String) (post : CSt → Prop) (sz : Nat) : String → State → State → Prop := vx_X post (fun E' u t => E' = E ∧ DWB D C K u t) (zz_A (DAd K) sz)
def CXR (l : Launch) (y : MethodName) (ws : List Cond) (rm : Room) (D : va_G) (C : Nat → ClassId) (K : Nat → Nat) (adK adV : Nat → Nat) (th : Nat) (As : List Value) (F : Nat → Int32) (hs : Nat → Bool) (G T : Nat → Nat → Int32) (E : String) (post : CSt → Prop) : Prop := ∀ sz : Nat, vx_Met l y ws rm (va_Pc (.ref (K th) :: As) (zz_E (fun sz U => DEP D C K F hs G T sz U ∧ AM (DAd K) U ∧ ASx adK adV (DAd K) U) sz)) (NoR (zz_A (DAd K) sz)) (XCP D C K E post sz) 1 6 (zz_A (DAd K) sz)
theorem CXR_of {y : MethodName} {ws ws' : List Cond} {rm : Room} {th : Nat} {As : List Value} {E : String} {post : CSt → Prop} {maxL : Nat} {ret : Option FieldType} (hw : ws = Cond.code y cc maxL ret :: ws') (hy : plainName y.cls = true) (hn : (lg_sl (.ref (K th) :: As)).length ≤ maxL) (hlv : lv_args 0 (.ref (K th) :: As) = lv)
  (body : ∀ (p : Program) (e : Env) (s : State) (m : MethodId) (args : Array Value) (below : List Frame) (meth : Method) (c : Code), CCx p s m args c cc ws y.cls D C → AM (zz_A (DAd K) s.heap.size) s → ASx adK adV (zz_A (DAd K) s.heap.size) s → (∀ x ∈ c.exceptionTable.toList, False) → c.maxLocals = maxL → meth.sig.returnType = ret → meth.locks = false → ZZ p l e rm s m args below meth c 0 0 (vx_MQ below (NoR (zz_A (DAd K) s.heap.size)) (XCP D C K E post s.heap.size) args s 1 6 (zz_A (DAd K) s.heap.size)) (zz_A (DAd K) s.heap.size) (DP D C K F (WH hs) G T) maxL lv [] 0) : CXR l y ws rm D C K adK adV th As F hs G T E post := by
  intro sz
  refine vx_ofW (cc := cc) (maxL := maxL) (ret := ret) hy hw ?_
  intro p e s m args below meth c s₁ B hml ht hv
  obtain ⟨rfl, rfl, ⟨hP, hK⟩, hA, hB⟩ := hv
  exact zz_enter (.ref (K th) :: As) maxL hn hlv hP (body p e s m _ below meth c ⟨⟨B.exec, B.bytes⟩, atoms_spec (ws := ws) B.pre, findClass_of_methodNamed B.named, hK⟩ hA.at hB.at ht hml B.returns B.notSynchronized)
theorem dd_throwP {E : String} {post : CSt → Prop} (pc : Nat) (X : CCx p s m args c cc Ts own D C) (hA : AM (zz_A (DAd K) s.heap.size) s) (ht : ∀ x ∈ c.exceptionTable.toList, False) (hml : c.maxLocals = n) (hlk : meth.locks = false) (hl : l.stackTraces = false) {text : String} {names : List String} {ik is ic : Nat}
  (hcls : Bundle.fit E = true) (hnames : ∀ n ∈ names, Bundle.fit n = true) (hk : Cond.classLink own ik E ∈ Ts) (hini : Cond.initialized E ∈ Ts) (hstr : (own, is, text) ∈ xTx) (hgw : ∀ w ∈ (vx_atS own ic E names).filter goodWord, w ∈ Ts) (hdc : ∀ w ∈ (vx_atS own ic E names).filter (fun w => !goodWord w), w ∈ xDc) (hgood : ∀ w ∈ Cond.classLink own ik E :: Cond.initialized E :: vx_atS own ic E names, vx_ot w = true)
  (hd : decode cc pc = .ok (.new ik, 3) ∧ decode cc (pc + 3) = .ok (.dup, 1) ∧ decode cc (pc + 4) = .ok (.ldc is, 2) ∧ decode cc (pc + 6) = .ok (.invokespecial ic, 3) ∧ decode cc (pc + 9) = .ok (.athrow, 1))
  (hR : names.length + 3 < R.frames ∧ (st.map fun v => v.category).sum + (13 * (names.length + 1) + 43) ≤ R.locals ∧ 1 ≤ R.cells ∧ 6 ≤ R.slots) (hu : post (F, hs, G, T)) : ZZ p l e R s m args below meth c 0 0 (vx_MQ below (NoR (zz_A (DAd K) s.heap.size)) (XCP D C K E post s.heap.size) args s 1 6 (zz_A (DAd K) s.heap.size)) (zz_A (DAd K) s.heap.size) (DP D C K F (WH hs) G T) n lv st pc :=
  zz_throwS pc X.1 X.2.1 X.2.2.1 hA ht hml hlk hl hcls hnames hk hini hstr hgw hdc hgood hd hR (fun H locs t hP hS _ hz hkp => ⟨(F, hs, G, T), hu, ⟨rfl, DP_keep H t.heap hP hz hkp⟩, Nat.le_trans hS.1 hz, fun q h1 h2 => (hkp q (Nat.lt_of_lt_of_le h1 hS.1)).trans (hS.2.1 q h1 h2)⟩)
end XRU
theorem run_facts {g : Nat → Int32} {n m0 : Nat} (hn : n ≤ 400) (hok : okS (tK (tc g n) n) m0) : m0 ≤ 100 ∧ sC (tK (tc g n) n) m0 ≤ 400 := by
  have h1 := sI_ge m0 hok
  have h2 := sI_le (K := tK (tc g n) n) (fun i hi => tK_lt (tc_n (g := g) (n := n)) hi) m0 hok
  omega
abbrev rm_X6_run : Room := { frames := 11, cells := 0, slots := 0, locals := 247 }
theorem yd_X6_run : yX6_run.cls = RX6 ∧ yX6_run.cls ≠ "java/lang/invoke/MethodHandle" ∧ yX6_run.cls ≠ "java/lang/invoke/VarHandle" ∧ (parseMethodDescriptor yX6_run.desc).map (fun d => d.parameters.length) = some 0 := by decide +kernel
set_option maxHeartbeats 4000000 in
set_option maxRecDepth 100000 in
theorem kt_X6_run_ok (l : Launch) (D : va_G) (C : Nat → ClassId) (K : Nat → Nat) (adK adV : Nat → Nat) (hAp : DAp K) (F : Nat → Int32) (hs : Nat → Bool) (G T : Nat → Nat → Int32) (KK : Nat → Nat) (VV : Nat → Nat) (SS : Nat → Nat) (m0 : Nat) (tn : Nat) (k1 : Nat) (hT : F 4 = nI tn) (htn : tn ≤ 400) (hHB : HB (G 3) tn) (hKK : KK = tK (tc (G 3) tn) tn) (hVV : VV = tV (tc (G 3) tn) tn) (hSS : SS = tS (tc (G 3) tn) tn) (hok : okS KK m0) (hend : KK (sI KK m0) = 0) (hst : stp KK VV m0 k1) (hkm : k1 = m0) : CAi l yX6_run wsX6_run rm_X6_run D C K adK adV (0) [] F hs G T (fun (r : Int32) (u : CSt) => ∃ (T1 : Nat → Nat → Int32) (gl : Nat → Int32) (c1 : Nat) (ix : Nat) (nt : Nat) (g40 : Nat → Int32) (g41 : Nat → Int32) (g42 : Nat → Int32), r = (nI m0) ∧ u = (upd (upd (upd (upd (upd (upd (upd (upd F 4 (nI 0)) 16 (-1)) 17 (-1)) 30 (nI m0)) 31 (nI c1)) 32 (nI nt)) 33 (nI ix)) 34 (nI tn), hX KK VV hs k1, va_up (va_up (va_up (va_up G 40 g40) 41 g41) 42 g42) 43 gl, T1)) := by
  refine CAi_of (lv := [(0, .ref (K 0))]) (cc := cX6_run) (maxL := 1) (ret := (some .int)) rfl (by decide +kernel) (Nat.le_of_ble_eq_true rfl) rfl ?_
  intro p e s m args below meth c X hB hml hr hlk
  generalize hQ : MQ below _ args s 0 0 _ = Q
  refine zz_aload_n 0 X.1 0 dX6_run_0 rfl ?_
  refine zz_aload_n 1 X.1 0 dX6_run_1 rfl ?_
  refine dd_get0 2 X (by decide +kernel) 2 (by decide) (v := .ref (K 4)) rfl (by decide +kernel) rfl dX6_run_2 ?_
  refine zz_aload_n 5 X.1 0 dX6_run_5 rfl ?_
  refine dd_get0 6 X (by decide +kernel) 1 (by decide) (v := .ref (K 2)) rfl (by decide +kernel) rfl dX6_run_6 ?_
  refine dd_callAi 9 X hB hml (th := 4) (As := [.ref (K 2)]) (kt_X1_read_ok l D C K adK adV hAp F hs G T KK VV SS m0 tn (hT) (by first | rfl | assumption | omega) (by first | rfl | assumption | omega) (by first | rfl | assumption | omega) (by first | rfl | assumption | omega) (by first | rfl | assumption | omega) (by first | rfl | assumption | omega) (by first | rfl | assumption | omega)) gX6_run_X1_read rfl ⟨rfl, rfl⟩ (dr_4 X) yd_X1_read ⟨Nat.le_of_ble_eq_true rfl, Nat.le_of_ble_eq_true rfl⟩ rfl rfl (Nat.le_of_ble_eq_true rfl) ⟨Nat.zero_le _, Nat.zero_le _⟩ dX6_run_9 ?_
  rintro r1 ⟨F1, hs1, G1, T1⟩ hu1
  obtain ⟨T1_1, gl_1, c1_1, ix_1, nt_1, g40_1, g41_1, g42_1, rfl, hv1, hf1_0⟩ := hu1
  cases hv1
  refine zz_world (P' := (DP D C K (upd (upd (upd (upd (upd F 30 (nI m0)) 31 (nI c1_1)) 32 (nI nt_1)) 33 (nI ix_1)) 34 (nI tn)) (WH hs) (va_up (va_up (va_up (va_up G 40 g40_1) 41 g41_1) 42 g42_1) 43 gl_1) T1)) (fun _ h => h) ?_
  refine dd_put0 12 hAp X (by decide +kernel) 4 (by decide) (F' := upd (upd (upd (upd (upd (upd F 16 (-1)) 30 (nI m0)) 31 (nI c1_1)) 32 (nI nt_1)) 33 (nI ix_1)) 34 (nI tn)) rfl (by decide +kernel) ⟨rfl, rfl⟩ (by decide +kernel) dX6_run_12 ?_
  refine zz_aload_n 15 X.1 0 dX6_run_15 rfl ?_
  refine zz_iconst 16 X.1 (v := (-1)) dX6_run_16 (by decide) ?_
  refine dd_put0 17 hAp X (by decide +kernel) 5 (by decide) (F' := upd (upd (upd (upd (upd (upd (upd F 16 (-1)) 17 (-1)) 30 (nI m0)) 31 (nI c1_1)) 32 (nI nt_1)) 33 (nI ix_1)) 34 (nI tn)) rfl (by decide +kernel) ⟨rfl, rfl⟩ (by decide +kernel) dX6_run_17 ?_
  refine zz_aload_n 20 X.1 0 dX6_run_20 rfl ?_
  refine dd_get0 21 X (by decide +kernel) 1 (by decide) (v := .ref (K 2)) rfl (by decide +kernel) rfl dX6_run_21 ?_
  refine dd_callVv 24 X hml (th := 2) (As := []) (kt_X3_empty l D C K hAp (upd (upd (upd (upd (upd (upd (upd F 16 (-1)) 17 (-1)) 30 (nI m0)) 31 (nI c1_1)) 32 (nI nt_1)) 33 (nI ix_1)) 34 (nI tn)) hs (va_up (va_up (va_up (va_up G 40 g40_1) 41 g41_1) 42 g42_1) 43 gl_1) T1  ) gX6_run_X3_empty rfl ⟨rfl, rfl⟩ (dr_2 X) yd_X3_empty ⟨Nat.le_of_ble_eq_true rfl, Nat.le_of_ble_eq_true rfl⟩ rfl rfl (Nat.le_of_ble_eq_true rfl) ⟨Nat.zero_le _, Nat.zero_le _⟩ dX6_run_24 ?_
  rintro ⟨F2, hs2, G2, T2⟩ hu2
  have hv2 := hu2
  cases hv2
  refine zz_world (P' := (DP D C K (upd (upd (upd (upd (upd (upd (upd (upd F 4 (nI 0)) 16 (-1)) 17 (-1)) 30 (nI m0)) 31 (nI c1_1)) 32 (nI nt_1)) 33 (nI ix_1)) 34 (nI tn)) (WH hs) (va_up (va_up (va_up (va_up G 40 g40_1) 41 g41_1) 42 g42_1) 43 gl_1) T1)) (fun _ h => h) ?_
  refine zz_aload_n 27 X.1 0 dX6_run_27 rfl ?_
  refine dd_get0 28 X (by decide +kernel) 4 (by decide) (v := .int (-1)) rfl (by decide +kernel) rfl dX6_run_28 ?_
  refine zz_iconst 31 X.1 (v := (-1)) dX6_run_31 (by decide) ?_
  refine zz_icmp_eq 32 45 X.1 (by decide : (-1 : Int32).toInt = -1) (by decide : (-1 : Int32).toInt = -1) dX6_run_32 (by decide) (fun h32 => ?_) (fun h32 => ?_)
  · skip
    have hrf := run_facts (g := G 3) htn (hKK ▸ hok)
    have hm : m0 ≤ 100 := hrf.1
    have hsC : sC KK m0 ≤ 400 := by rw [hKK]; exact hrf.2
    have hV2 : ∀ j, KK j = 2 → VV j < 8 := fun j q => by rw [hKK] at q; rw [hVV]; exact tV_2 q
    have hV3 : ∀ j, KK j = 3 → VV j < 1024 := fun j q => by rw [hKK] at q; rw [hVV]; exact tV_3 q
    refine zz_aload_n 45 X.1 0 dX6_run_45 rfl ?_
    refine dd_callVi 46 X hml (th := 0) (As := []) (kt_X6_doStatements_ok l D C K hAp (upd (upd (upd (upd (upd (upd (upd (upd F 4 (nI 0)) 16 (-1)) 17 (-1)) 30 (nI m0)) 31 (nI c1_1)) 32 (nI nt_1)) 33 (nI ix_1)) 34 (nI tn)) hs (va_up (va_up (va_up (va_up G 40 g40_1) 41 g41_1) 42 g42_1) 43 gl_1) T1 KK VV m0 k1 (rfl) (by first | rfl | assumption | omega) (by first | rfl | assumption | omega) (by first | rfl | assumption | omega) (by first | rfl | assumption | omega) (by first | rfl | assumption | omega) (by first | rfl | assumption | omega) (by first | rfl | assumption | omega) (by first | rfl | assumption | omega)) gX6_run_X6_doStatements rfl ⟨rfl, rfl⟩ (dr_0 X) yd_X6_doStatements ⟨Nat.le_of_ble_eq_true rfl, Nat.le_of_ble_eq_true rfl⟩ rfl rfl (Nat.le_of_ble_eq_true rfl) ⟨Nat.zero_le _, Nat.zero_le _⟩ dX6_run_46 ?_
    rintro r3 ⟨F3, hs3, G3, T3⟩ hu3
    obtain ⟨rfl, hv3⟩ := hu3
    cases hv3
    refine zz_world (P' := (DP D C K (upd (upd (upd (upd (upd (upd (upd (upd F 4 (nI 0)) 16 (-1)) 17 (-1)) 30 (nI m0)) 31 (nI c1_1)) 32 (nI nt_1)) 33 (nI ix_1)) 34 (nI tn)) (WH (hX KK VV hs k1)) (va_up (va_up (va_up (va_up G 40 g40_1) 41 g41_1) 42 g42_1) 43 gl_1) T1)) (fun _ h => h) ?_
    rw [← hQ]
    refine zz_iret 49 X.1 hr rfl hlk (upd (upd (upd (upd (upd (upd (upd (upd F 4 (nI 0)) 16 (-1)) 17 (-1)) 30 (nI m0)) 31 (nI c1_1)) 32 (nI nt_1)) 33 (nI ix_1)) 34 (nI tn), hX KK VV hs k1, va_up (va_up (va_up (va_up G 40 g40_1) 41 g41_1) 42 g42_1) 43 gl_1, T1) ?_ (fun _ h _ => h) dX6_run_49
    exact ⟨T1, gl_1, c1_1, ix_1, nt_1, g40_1, g41_1, g42_1, rfl, rfl⟩
  · exfalso; omega
abbrev rx_X6_run : Room := { frames := 11, cells := 1, slots := 6, locals := 247 }
