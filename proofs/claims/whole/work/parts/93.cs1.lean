/-! The law's cases. -/
abbrev lvL (b k0 r0 ao ad i : Nat) : List (Nat × Value) := [(0, .ref b), (1, .ref k0), (2, .ref r0), (3, .ref ao), (4, .ref ad), (5, .int (nI i))]
def NXT (p : Program) (l : Launch) (e : Env) (s : State) (m : MethodId) (args : Array Value) (below : List Frame) (meth : Method) (c : Code) (Q : State → Prop) (A : Nat → Prop) (D : va_G) (C : Nat → ClassId) (cD : ClassId) (K KR : Nat → Nat) (ao ad b i cells slots : Nat) : Prop := ∀ (u : CSt) (v : MSt) (o : Int64) (od : UInt64) (cells' slots' : Nat), INV u v → cells' ≤ cells + 1 → slots' ≤ slots + 6 → ZZ p l e room_1 s m args below meth c cells' slots' Q A (PL D C cD K KR ao ad u v o od) 10 (lvL b (K 0) (KR 0) ao ad i) [] 3988
set_option maxHeartbeats 8000000 in
set_option maxRecDepth 100000 in
theorem cs_append {p : Program} {l : Launch} {e : Env} {s : State} {m : MethodId} {args : Array Value} {below : List Frame} {meth : Method} {c : Code} {Q : State → Prop} {D : va_G} {C : Nat → ClassId} {cD : ClassId} {K KR : Nat → Nat} {A : Nat → Prop} {adK adV : Nat → Nat} {ao ad b L : Nat} {xs : Nat → Int32} {u : CSt} {v : MSt} {o : Int64} {od : UInt64} {cells slots i : Nat} (Z : LCx p l s m args c meth A D C cD K KR adK adV ao ad b L xs) (hI : INV u v) (hi : i + 8 ≤ L) (hcs : cells + 1 ≤ room_1.cells ∧ slots + 6 ≤ room_1.slots) (kk : NXT p l e s m args below meth c Q A D C cD K KR ao ad b i cells slots) : ZZ p l e room_1 s m args below meth c cells slots Q A (PL D C cD K KR ao ad u v o od) 10 (lvL b (K 0) (KR 0) ao ad i) [] 284 := by
  obtain ⟨x1, e1⟩ : ∃ z : Int32, xs (i + 1) = z := ⟨_, rfl⟩
  obtain ⟨x2, e2⟩ : ∃ z : Int32, xs (i + 2) = z := ⟨_, rfl⟩
  obtain ⟨x3, e3⟩ : ∃ z : Int32, xs (i + 3) = z := ⟨_, rfl⟩
  obtain ⟨x4, e4⟩ : ∃ z : Int32, xs (i + 4) = z := ⟨_, rfl⟩
  obtain ⟨x5, e5⟩ : ∃ z : Int32, xs (i + 5) = z := ⟨_, rfl⟩
  refine zz_aload_n 284 Z.1.1 1 dL_law_284 rfl ?_
  refine zz_aload_n 285 Z.1.1 0 dL_law_285 rfl ?_
  refine zz_iload 286 Z.1.1 5 dL_law_286 rfl ?_
  refine zz_iconst 288 Z.1.1 (v := nI 1) dL_law_288 rfl ?_
  refine zz_iadd 289 Z.1.1 (v := nI (i + 1)) dL_law_289 (nI_add i 1) ?_
  refine lw_sld 290 Z (j := i + 1) (by omega) e1 dL_law_290 ?_
  refine zz_aload_n 291 Z.1.1 0 dL_law_291 rfl ?_
  refine zz_iload 292 Z.1.1 5 dL_law_292 rfl ?_
  refine zz_iconst 294 Z.1.1 (v := nI 2) dL_law_294 rfl ?_
  refine zz_iadd 295 Z.1.1 (v := nI (i + 2)) dL_law_295 (nI_add i 2) ?_
  refine lw_sld 296 Z (j := i + 2) (by omega) e2 dL_law_296 ?_
  refine zz_aload_n 297 Z.1.1 0 dL_law_297 rfl ?_
  refine zz_iload 298 Z.1.1 5 dL_law_298 rfl ?_
  refine zz_iconst 300 Z.1.1 (v := nI 3) dL_law_300 rfl ?_
  refine zz_iadd 301 Z.1.1 (v := nI (i + 3)) dL_law_301 (nI_add i 3) ?_
  refine lw_sld 302 Z (j := i + 3) (by omega) e3 dL_law_302 ?_
  refine zz_aload_n 303 Z.1.1 0 dL_law_303 rfl ?_
  refine zz_iload 304 Z.1.1 5 dL_law_304 rfl ?_
  refine zz_iconst 306 Z.1.1 (v := nI 4) dL_law_306 rfl ?_
  refine zz_iadd 307 Z.1.1 (v := nI (i + 4)) dL_law_307 (nI_add i 4) ?_
  refine lw_sld 308 Z (j := i + 4) (by omega) e4 dL_law_308 ?_
  refine zz_aload_n 309 Z.1.1 0 dL_law_309 rfl ?_
  refine zz_iload 310 Z.1.1 5 dL_law_310 rfl ?_
  refine zz_iconst 312 Z.1.1 (v := nI 5) dL_law_312 rfl ?_
  refine zz_iadd 313 Z.1.1 (v := nI (i + 5)) dL_law_313 (nI_add i 5) ?_
  refine lw_sld 314 Z (j := i + 5) (by omega) e5 dL_law_314 ?_
  refine zz_aload_n 315 Z.1.1 3 dL_law_315 rfl ?_
  obtain ⟨kc, rb, o', CU, RV, postR, hW, hR, hp, hq, hk, hv⟩ := pr_append l Z.2.2.1 D C cD K KR adK adV ao Z.2.2.2.2.2.1.1.1 Z.2.2.2.2.2.1.1.2 Z.2.2.2.2.2.1.aoD u v o hI x1 x2 x3 x4 x5
  refine lw_callW 316 Z (na := 7) (As := [.int x1, .int x2, .int x3, .int x4, .int x5]) hW gL_law_L_append rfl ⟨rfl, rfl⟩ (by decide +kernel) ⟨Nat.le_of_ble_eq_true rfl, Nat.le_of_ble_eq_true rfl⟩ rfl rfl (Nat.le_of_ble_eq_true rfl) hcs dL_law_316 ?_
  rintro r ⟨q1, q2⟩ ⟨er, eo, hC⟩
  replace eo : q2 = o' := eo
  replace hC : CU q1 := hC
  rw [er]
  refine zz_world (P' := (PL D C cD K KR ao ad q1 v q2 od)) (fun _ h => h) ?_
  refine zz_istore 319 Z.1.1 (lv' := [(6, .int (nI kc)), (0, .ref b), (1, .ref (K 0)), (2, .ref (KR 0)), (3, .ref ao), (4, .ref ad), (5, .int (nI i))]) dL_law_319 (by decide) rfl ?_
  refine zz_aload_n 321 Z.1.1 3 dL_law_321 rfl ?_
  refine zz_aload_n 322 Z.1.1 1 dL_law_322 rfl ?_
  refine zz_iload 323 Z.1.1 6 dL_law_323 rfl ?_
  refine zz_iconst 325 Z.1.1 (v := nI 1) dL_law_325 rfl ?_
  refine zz_iadd 326 Z.1.1 (v := nI (i + 1)) dL_law_326 (nI_add i 1) ?_
  refine lw_sld 327 Z (j := i + 1) (by omega) e1 dL_law_327 ?_
  refine zz_aload_n 328 Z.1.1 1 dL_law_328 rfl ?_
  refine zz_iload 329 Z.1.1 6 dL_law_329 rfl ?_
  refine zz_iconst 331 Z.1.1 (v := nI 2) dL_law_331 rfl ?_
  refine zz_iadd 332 Z.1.1 (v := nI (i + 2)) dL_law_332 (nI_add i 2) ?_
  refine lw_sld 333 Z (j := i + 2) (by omega) e2 dL_law_333 ?_
  refine zz_aload_n 334 Z.1.1 1 dL_law_334 rfl ?_
  refine zz_iload 335 Z.1.1 6 dL_law_335 rfl ?_
  refine zz_iconst 337 Z.1.1 (v := nI 3) dL_law_337 rfl ?_
  refine zz_iadd 338 Z.1.1 (v := nI (i + 3)) dL_law_338 (nI_add i 3) ?_
  refine lw_sld 339 Z (j := i + 3) (by omega) e3 dL_law_339 ?_
  refine zz_aload_n 340 Z.1.1 1 dL_law_340 rfl ?_
  refine zz_iload 341 Z.1.1 6 dL_law_341 rfl ?_
  refine zz_iconst 343 Z.1.1 (v := nI 4) dL_law_343 rfl ?_
  refine zz_iadd 344 Z.1.1 (v := nI (i + 4)) dL_law_344 (nI_add i 4) ?_
  refine lw_sld 345 Z (j := i + 4) (by omega) e4 dL_law_345 ?_
  refine zz_aload_n 346 Z.1.1 1 dL_law_346 rfl ?_
  refine zz_iload 347 Z.1.1 6 dL_law_347 rfl ?_
  refine zz_iconst 349 Z.1.1 (v := nI 5) dL_law_349 rfl ?_
  refine zz_iadd 350 Z.1.1 (v := nI (i + 5)) dL_law_350 (nI_add i 5) ?_
  refine lw_sld 351 Z (j := i + 5) (by omega) e5 dL_law_351 ?_
  refine lw_callRi 352 Z (As := [.int x1, .int x2, .int x3, .int x4, .int x5]) hR gL_law_X7_append rfl ⟨rfl, rfl⟩ yd_X7_append ⟨Nat.le_of_ble_eq_true rfl, Nat.le_of_ble_eq_true rfl⟩ rfl rfl (Nat.le_of_ble_eq_true rfl) hcs dL_law_352 ?_
  intro r2 w hw2
  obtain ⟨er2, hV⟩ := hp r2 w hw2
  rw [er2]
  have hIN := hq q1 w hC hV
  refine zz_istore 355 Z.1.1 (lv' := [(7, .int rb), (6, .int (nI kc)), (0, .ref b), (1, .ref (K 0)), (2, .ref (KR 0)), (3, .ref ao), (4, .ref ad), (5, .int (nI i))]) dL_law_355 (by decide) rfl ?_
  refine zz_aload_n 357 Z.1.1 4 dL_law_357 rfl ?_
  refine lw_callRi 358 Z (As := []) (kt_X7_thrown l D C KR Z.2.2.2.2.2.1.1.2 w.1 w.2.1 w.2.2.1 w.2.2.2 kc hIN.1) gL_law_X7_thrown rfl ⟨rfl, rfl⟩ yd_X7_thrown ⟨Nat.le_of_ble_eq_true rfl, Nat.le_of_ble_eq_true rfl⟩ rfl rfl (Nat.le_of_ble_eq_true rfl) hcs dL_law_358 ?_
  rintro r3 w3 ⟨er3, ew3⟩
  subst ew3
  rw [er3]
  refine zz_world (P' := (PL D C cD K KR ao ad q1 w q2 od)) (fun _ h => h) ?_
  refine zz_iload 361 Z.1.1 1 dL_law_361 rfl ?_
  refine zz_icmp_eq 363 368 Z.1.1 (nI_toInt (by omega)) (nI_toInt (by omega)) dL_law_363 (by decide) (fun h => ?_) (fun h => ?_)
  · skip
    refine zz_iload 368 Z.1.1 1 dL_law_368 rfl ?_
    refine zz_if_ne 370 385 Z.1.1 (nI_toInt (by omega)) dL_law_370 (by decide) (fun h0 => ?_) (fun h0 => ?_)
    · skip
      refine zz_goto 385 3988 Z.1.1 dL_law_385 (by decide) ?_
      refine zz_lvs [2, 3, 4, 5, 6, 7] rfl ?_
      exact kk q1 w q2 od _ _ hIN.2 (by omega) (by omega)
    · skip
      have hv0 := hv (by omega)
      rw [← eo] at hv0
      refine zz_aload_n 373 Z.1.1 5 dL_law_373 rfl ?_
      refine zz_iconst 374 Z.1.1 (v := nI 0) dL_law_374 rfl ?_
      refine lw_lld 375 Z dL_law_375 ?_
      refine zz_iload 376 Z.1.1 0 dL_law_376 rfl ?_
      refine zz_i2l 378 Z.1.1 dL_law_378 rfl ?_
      refine zz_lcmp 379 Z.1.1 dL_law_379 ?_
      refine zz_ifL_eq 380 385 Z.1.1 dL_law_380 (by decide) (fun h => ?_) (fun h => ?_)
      · skip
        refine zz_goto 385 3988 Z.1.1 dL_law_385 (by decide) ?_
        refine zz_lvs [2, 3, 4, 5, 6, 7] rfl ?_
        exact kk q1 w q2 od _ _ hIN.2 (by omega) (by omega)
      · exact absurd (hv0) h
  · exact absurd rfl h

set_option maxHeartbeats 8000000 in
set_option maxRecDepth 100000 in
theorem cs_clearTape {p : Program} {l : Launch} {e : Env} {s : State} {m : MethodId} {args : Array Value} {below : List Frame} {meth : Method} {c : Code} {Q : State → Prop} {D : va_G} {C : Nat → ClassId} {cD : ClassId} {K KR : Nat → Nat} {A : Nat → Prop} {adK adV : Nat → Nat} {ao ad b L : Nat} {xs : Nat → Int32} {u : CSt} {v : MSt} {o : Int64} {od : UInt64} {cells slots i : Nat} (Z : LCx p l s m args c meth A D C cD K KR adK adV ao ad b L xs) (hI : INV u v) (hi : i + 8 ≤ L) (hcs : cells + 1 ≤ room_1.cells ∧ slots + 6 ≤ room_1.slots) (kk : NXT p l e s m args below meth c Q A D C cD K KR ao ad b i cells slots) : ZZ p l e room_1 s m args below meth c cells slots Q A (PL D C cD K KR ao ad u v o od) 10 (lvL b (K 0) (KR 0) ao ad i) [] 388 := by
  obtain ⟨tn, htn, hTu, hTv, hHB⟩ := hI.2.2.2.1
  refine zz_aload_n 388 Z.1.1 1 dL_law_388 rfl ?_
  refine lw_callCi 389 Z (As := []) (kt_X6_clearTape_ok l D C K Z.2.2.2.2.2.1.1.1 u.1 u.2.1 u.2.2.1 u.2.2.2 tn hTu htn) gL_law_X6_clearTape rfl ⟨rfl, rfl⟩ yd_X6_clearTape ⟨Nat.le_of_ble_eq_true rfl, Nat.le_of_ble_eq_true rfl⟩ rfl rfl (Nat.le_of_ble_eq_true rfl) ⟨Nat.le_trans (Nat.le_add_right _ 1) hcs.1, Nat.le_trans (Nat.le_add_right _ 6) hcs.2⟩ dL_law_389 ?_
  rintro r1 q1 ⟨er1, eq1⟩
  subst eq1
  rw [er1]
  refine zz_world (P' := (PL D C cD K KR ao ad (upd u.1 4 (nI 0), u.2.1, u.2.2.1, u.2.2.2) v o od)) (fun _ h => h) ?_
  refine zz_aload_n 392 Z.1.1 2 dL_law_392 rfl ?_
  refine lw_callRi 393 Z (As := []) (kt_X7_clearTape l D C KR Z.2.2.2.2.2.1.1.2 v.1 v.2.1 v.2.2.1 v.2.2.2 tn hTv htn) gL_law_X7_clearTape rfl ⟨rfl, rfl⟩ yd_X7_clearTape ⟨Nat.le_of_ble_eq_true rfl, Nat.le_of_ble_eq_true rfl⟩ rfl rfl (Nat.le_of_ble_eq_true rfl) ⟨Nat.le_trans (Nat.le_add_right _ 1) hcs.1, Nat.le_trans (Nat.le_add_right _ 6) hcs.2⟩ dL_law_393 ?_
  rintro r2 w ⟨er2, ew2⟩
  subst ew2
  rw [er2]
  refine zz_world (P' := (PL D C cD K KR ao ad (upd u.1 4 (nI 0), u.2.1, u.2.2.1, u.2.2.2) (upd (upd v.1 0 (nI 0)) 4 (nI 0), v.2.1, v.2.2.1, v.2.2.2) o od)) (fun _ h => h) ?_
  refine zz_icmp_eq 396 3988 Z.1.1 rfl rfl dL_law_396 (by decide) (fun h => ?_) (fun h => ?_)
  · skip
    refine zz_lvs [0, 1, 2, 3, 4, 5] rfl ?_
    exact kk (upd u.1 4 (nI 0), u.2.1, u.2.2.1, u.2.2.2) (upd (upd v.1 0 (nI 0)) 4 (nI 0), v.2.1, v.2.2.1, v.2.2.2) o od _ _ ⟨hI.1, hI.2.1, hI.2.2.1, ⟨0, by omega, rfl, rfl, fun j hj => absurd hj (Nat.not_lt_zero j)⟩, hI.2.2.2.2⟩ (by omega) (by omega)
  · exact absurd (rfl) h

set_option maxHeartbeats 8000000 in
set_option maxRecDepth 100000 in
theorem cs_run {p : Program} {l : Launch} {e : Env} {s : State} {m : MethodId} {args : Array Value} {below : List Frame} {meth : Method} {c : Code} {Q : State → Prop} {D : va_G} {C : Nat → ClassId} {cD : ClassId} {K KR : Nat → Nat} {A : Nat → Prop} {adK adV : Nat → Nat} {ao ad b L : Nat} {xs : Nat → Int32} {u : CSt} {v : MSt} {o : Int64} {od : UInt64} {cells slots i : Nat} (Z : LCx p l s m args c meth A D C cD K KR adK adV ao ad b L xs) (hI : INV u v) (hi : i + 8 ≤ L) (hcs : cells + 1 ≤ room_1.cells ∧ slots + 6 ≤ room_1.slots) (kk : NXT p l e s m args below meth c Q A D C cD K KR ao ad b i cells slots) : ZZ p l e room_1 s m args below meth c cells slots Q A (PL D C cD K KR ao ad u v o od) 10 (lvL b (K 0) (KR 0) ao ad i) [] 401 := by
  refine zz_aload_n 401 Z.1.1 1 dL_law_401 rfl ?_
  refine zz_aload_n 402 Z.1.1 3 dL_law_402 rfl ?_
  obtain ⟨kc, rb, o', CU, RV, postR, hW, hR, hp, hq, hk, hv⟩ := pr_run l Z.2.2.1 D C cD K KR adK adV ao Z.2.2.2.2.2.1.1.1 Z.2.2.2.2.2.1.1.2 Z.2.2.2.2.2.1.aoD u v o hI 
  refine lw_callW 403 Z (na := 2) (As := []) hW gL_law_L_run rfl ⟨rfl, rfl⟩ (by decide +kernel) ⟨Nat.le_of_ble_eq_true rfl, Nat.le_of_ble_eq_true rfl⟩ rfl rfl (Nat.le_of_ble_eq_true rfl) hcs dL_law_403 ?_
  rintro r ⟨q1, q2⟩ ⟨er, eo, hC⟩
  replace eo : q2 = o' := eo
  replace hC : CU q1 := hC
  rw [er]
  refine zz_world (P' := (PL D C cD K KR ao ad q1 v q2 od)) (fun _ h => h) ?_
  refine zz_istore 406 Z.1.1 (lv' := [(6, .int (nI kc)), (0, .ref b), (1, .ref (K 0)), (2, .ref (KR 0)), (3, .ref ao), (4, .ref ad), (5, .int (nI i))]) dL_law_406 (by decide) rfl ?_
  refine zz_aload_n 408 Z.1.1 3 dL_law_408 rfl ?_
  refine lw_callRi 409 Z (As := []) hR gL_law_X7_run rfl ⟨rfl, rfl⟩ yd_X7_run ⟨Nat.le_of_ble_eq_true rfl, Nat.le_of_ble_eq_true rfl⟩ rfl rfl (Nat.le_of_ble_eq_true rfl) hcs dL_law_409 ?_
  intro r2 w hw2
  obtain ⟨er2, hV⟩ := hp r2 w hw2
  rw [er2]
  have hIN := hq q1 w hC hV
  refine zz_istore 412 Z.1.1 (lv' := [(7, .int rb), (6, .int (nI kc)), (0, .ref b), (1, .ref (K 0)), (2, .ref (KR 0)), (3, .ref ao), (4, .ref ad), (5, .int (nI i))]) dL_law_412 (by decide) rfl ?_
  refine zz_aload_n 414 Z.1.1 4 dL_law_414 rfl ?_
  refine lw_callRi 415 Z (As := []) (kt_X7_thrown l D C KR Z.2.2.2.2.2.1.1.2 w.1 w.2.1 w.2.2.1 w.2.2.2 kc hIN.1) gL_law_X7_thrown rfl ⟨rfl, rfl⟩ yd_X7_thrown ⟨Nat.le_of_ble_eq_true rfl, Nat.le_of_ble_eq_true rfl⟩ rfl rfl (Nat.le_of_ble_eq_true rfl) hcs dL_law_415 ?_
  rintro r3 w3 ⟨er3, ew3⟩
  subst ew3
  rw [er3]
  refine zz_world (P' := (PL D C cD K KR ao ad q1 w q2 od)) (fun _ h => h) ?_
  refine zz_iload 418 Z.1.1 1 dL_law_418 rfl ?_
  refine zz_icmp_eq 420 425 Z.1.1 (nI_toInt (by omega)) (nI_toInt (by omega)) dL_law_420 (by decide) (fun h => ?_) (fun h => ?_)
  · skip
    refine zz_iload 425 Z.1.1 1 dL_law_425 rfl ?_
    refine zz_if_ne 427 442 Z.1.1 (nI_toInt (by omega)) dL_law_427 (by decide) (fun h0 => ?_) (fun h0 => ?_)
    · skip
      refine zz_goto 442 3988 Z.1.1 dL_law_442 (by decide) ?_
      refine zz_lvs [2, 3, 4, 5, 6, 7] rfl ?_
      exact kk q1 w q2 od _ _ hIN.2 (by omega) (by omega)
    · skip
      have hv0 := hv (by omega)
      rw [← eo] at hv0
      refine zz_aload_n 430 Z.1.1 5 dL_law_430 rfl ?_
      refine zz_iconst 431 Z.1.1 (v := nI 0) dL_law_431 rfl ?_
      refine lw_lld 432 Z dL_law_432 ?_
      refine zz_iload 433 Z.1.1 0 dL_law_433 rfl ?_
      refine zz_i2l 435 Z.1.1 dL_law_435 rfl ?_
      refine zz_lcmp 436 Z.1.1 dL_law_436 ?_
      refine zz_ifL_eq 437 442 Z.1.1 dL_law_437 (by decide) (fun h => ?_) (fun h => ?_)
      · skip
        refine zz_goto 442 3988 Z.1.1 dL_law_442 (by decide) ?_
        refine zz_lvs [2, 3, 4, 5, 6, 7] rfl ?_
        exact kk q1 w q2 od _ _ hIN.2 (by omega) (by omega)
      · exact absurd (hv0) h
  · exact absurd rfl h

set_option maxHeartbeats 8000000 in
set_option maxRecDepth 100000 in
theorem cs_errorPosition {p : Program} {l : Launch} {e : Env} {s : State} {m : MethodId} {args : Array Value} {below : List Frame} {meth : Method} {c : Code} {Q : State → Prop} {D : va_G} {C : Nat → ClassId} {cD : ClassId} {K KR : Nat → Nat} {A : Nat → Prop} {adK adV : Nat → Nat} {ao ad b L : Nat} {xs : Nat → Int32} {u : CSt} {v : MSt} {o : Int64} {od : UInt64} {cells slots i : Nat} (Z : LCx p l s m args c meth A D C cD K KR adK adV ao ad b L xs) (hI : INV u v) (hi : i + 8 ≤ L) (hcs : cells + 1 ≤ room_1.cells ∧ slots + 6 ≤ room_1.slots) (kk : NXT p l e s m args below meth c Q A D C cD K KR ao ad b i cells slots) : ZZ p l e room_1 s m args below meth c cells slots Q A (PL D C cD K KR ao ad u v o od) 10 (lvL b (K 0) (KR 0) ao ad i) [] 445 := by
  refine zz_aload_n 445 Z.1.1 1 dL_law_445 rfl ?_
  refine lw_callCi 446 Z (As := []) (kt_X6_errorPosition_ok l D C K Z.2.2.2.2.2.1.1.1 u.1 u.2.1 u.2.2.1 u.2.2.2) gL_law_X6_errorPosition rfl ⟨rfl, rfl⟩ yd_X6_errorPosition ⟨Nat.le_of_ble_eq_true rfl, Nat.le_of_ble_eq_true rfl⟩ rfl rfl (Nat.le_of_ble_eq_true rfl) ⟨Nat.le_trans (Nat.le_add_right _ 1) hcs.1, Nat.le_trans (Nat.le_add_right _ 6) hcs.2⟩ dL_law_446 ?_
  rintro r1 q1 ⟨er1, eq1⟩
  subst eq1
  rw [er1]
  refine zz_world (P' := (PL D C cD K KR ao ad (u.1, u.2.1, u.2.2.1, u.2.2.2) v o od)) (fun _ h => h) ?_
  refine zz_aload_n 449 Z.1.1 2 dL_law_449 rfl ?_
  refine lw_callRi 450 Z (As := []) (kt_X7_errorPosition l D C KR Z.2.2.2.2.2.1.1.2 v.1 v.2.1 v.2.2.1 v.2.2.2) gL_law_X7_errorPosition rfl ⟨rfl, rfl⟩ yd_X7_errorPosition ⟨Nat.le_of_ble_eq_true rfl, Nat.le_of_ble_eq_true rfl⟩ rfl rfl (Nat.le_of_ble_eq_true rfl) ⟨Nat.le_trans (Nat.le_add_right _ 1) hcs.1, Nat.le_trans (Nat.le_add_right _ 6) hcs.2⟩ dL_law_450 ?_
  rintro r2 w ⟨er2, ew2⟩
  subst ew2
  rw [er2]
  refine zz_world (P' := (PL D C cD K KR ao ad (u.1, u.2.1, u.2.2.1, u.2.2.2) (upd v.1 0 (nI 0), v.2.1, v.2.2.1, v.2.2.2) o od)) (fun _ h => h) ?_
  refine zz_icmp_eq 453 3988 Z.1.1 rfl rfl dL_law_453 (by decide) (fun h => ?_) (fun h => ?_)
  · skip
    refine zz_lvs [0, 1, 2, 3, 4, 5] rfl ?_
    exact kk (u.1, u.2.1, u.2.2.1, u.2.2.2) (upd v.1 0 (nI 0), v.2.1, v.2.2.1, v.2.2.2) o od _ _ hI (by omega) (by omega)
  · exact absurd (congrArg Int32.toInt hI.2.1.2.1) h

set_option maxHeartbeats 8000000 in
set_option maxRecDepth 100000 in
theorem cs_stoppedAt {p : Program} {l : Launch} {e : Env} {s : State} {m : MethodId} {args : Array Value} {below : List Frame} {meth : Method} {c : Code} {Q : State → Prop} {D : va_G} {C : Nat → ClassId} {cD : ClassId} {K KR : Nat → Nat} {A : Nat → Prop} {adK adV : Nat → Nat} {ao ad b L : Nat} {xs : Nat → Int32} {u : CSt} {v : MSt} {o : Int64} {od : UInt64} {cells slots i : Nat} (Z : LCx p l s m args c meth A D C cD K KR adK adV ao ad b L xs) (hI : INV u v) (hi : i + 8 ≤ L) (hcs : cells + 1 ≤ room_1.cells ∧ slots + 6 ≤ room_1.slots) (kk : NXT p l e s m args below meth c Q A D C cD K KR ao ad b i cells slots) : ZZ p l e room_1 s m args below meth c cells slots Q A (PL D C cD K KR ao ad u v o od) 10 (lvL b (K 0) (KR 0) ao ad i) [] 458 := by
  refine zz_aload_n 458 Z.1.1 1 dL_law_458 rfl ?_
  refine lw_callCi 459 Z (As := []) (kt_X6_stoppedAt_ok l D C K Z.2.2.2.2.2.1.1.1 u.1 u.2.1 u.2.2.1 u.2.2.2) gL_law_X6_stoppedAt rfl ⟨rfl, rfl⟩ yd_X6_stoppedAt ⟨Nat.le_of_ble_eq_true rfl, Nat.le_of_ble_eq_true rfl⟩ rfl rfl (Nat.le_of_ble_eq_true rfl) ⟨Nat.le_trans (Nat.le_add_right _ 1) hcs.1, Nat.le_trans (Nat.le_add_right _ 6) hcs.2⟩ dL_law_459 ?_
  rintro r1 q1 ⟨er1, eq1⟩
  subst eq1
  rw [er1]
  refine zz_world (P' := (PL D C cD K KR ao ad (u.1, u.2.1, u.2.2.1, u.2.2.2) v o od)) (fun _ h => h) ?_
  refine zz_aload_n 462 Z.1.1 2 dL_law_462 rfl ?_
  refine lw_callRi 463 Z (As := []) (kt_X7_stoppedAt l D C KR Z.2.2.2.2.2.1.1.2 v.1 v.2.1 v.2.2.1 v.2.2.2) gL_law_X7_stoppedAt rfl ⟨rfl, rfl⟩ yd_X7_stoppedAt ⟨Nat.le_of_ble_eq_true rfl, Nat.le_of_ble_eq_true rfl⟩ rfl rfl (Nat.le_of_ble_eq_true rfl) ⟨Nat.le_trans (Nat.le_add_right _ 1) hcs.1, Nat.le_trans (Nat.le_add_right _ 6) hcs.2⟩ dL_law_463 ?_
  rintro r2 w ⟨er2, ew2⟩
  subst ew2
  rw [er2]
  refine zz_world (P' := (PL D C cD K KR ao ad (u.1, u.2.1, u.2.2.1, u.2.2.2) (upd v.1 0 (nI 0), v.2.1, v.2.2.1, v.2.2.2) o od)) (fun _ h => h) ?_
  refine zz_icmp_eq 466 3988 Z.1.1 rfl rfl dL_law_466 (by decide) (fun h => ?_) (fun h => ?_)
  · skip
    refine zz_lvs [0, 1, 2, 3, 4, 5] rfl ?_
    exact kk (u.1, u.2.1, u.2.2.1, u.2.2.2) (upd v.1 0 (nI 0), v.2.1, v.2.2.1, v.2.2.2) o od _ _ hI (by omega) (by omega)
  · exact absurd (congrArg Int32.toInt hI.2.1.2.2) h

set_option maxHeartbeats 8000000 in
set_option maxRecDepth 100000 in
theorem cs_add {p : Program} {l : Launch} {e : Env} {s : State} {m : MethodId} {args : Array Value} {below : List Frame} {meth : Method} {c : Code} {Q : State → Prop} {D : va_G} {C : Nat → ClassId} {cD : ClassId} {K KR : Nat → Nat} {A : Nat → Prop} {adK adV : Nat → Nat} {ao ad b L : Nat} {xs : Nat → Int32} {u : CSt} {v : MSt} {o : Int64} {od : UInt64} {cells slots i : Nat} (Z : LCx p l s m args c meth A D C cD K KR adK adV ao ad b L xs) (hI : INV u v) (hi : i + 8 ≤ L) (hcs : cells + 1 ≤ room_1.cells ∧ slots + 6 ≤ room_1.slots) (kk : NXT p l e s m args below meth c Q A D C cD K KR ao ad b i cells slots) : ZZ p l e room_1 s m args below meth c cells slots Q A (PL D C cD K KR ao ad u v o od) 10 (lvL b (K 0) (KR 0) ao ad i) [] 471 := by
  obtain ⟨x1, e1⟩ : ∃ z : Int32, xs (i + 1) = z := ⟨_, rfl⟩
  obtain ⟨x2, e2⟩ : ∃ z : Int32, xs (i + 2) = z := ⟨_, rfl⟩
  refine zz_aload_n 471 Z.1.1 1 dL_law_471 rfl ?_
  refine zz_aload_n 472 Z.1.1 0 dL_law_472 rfl ?_
  refine zz_iload 473 Z.1.1 5 dL_law_473 rfl ?_
  refine zz_iconst 475 Z.1.1 (v := nI 1) dL_law_475 rfl ?_
  refine zz_iadd 476 Z.1.1 (v := nI (i + 1)) dL_law_476 (nI_add i 1) ?_
  refine lw_sld 477 Z (j := i + 1) (by omega) e1 dL_law_477 ?_
  refine zz_aload_n 478 Z.1.1 0 dL_law_478 rfl ?_
  refine zz_iload 479 Z.1.1 5 dL_law_479 rfl ?_
  refine zz_iconst 481 Z.1.1 (v := nI 2) dL_law_481 rfl ?_
  refine zz_iadd 482 Z.1.1 (v := nI (i + 2)) dL_law_482 (nI_add i 2) ?_
  refine lw_sld 483 Z (j := i + 2) (by omega) e2 dL_law_483 ?_
  refine zz_aload_n 484 Z.1.1 3 dL_law_484 rfl ?_
  obtain ⟨kc, rb, o', CU, RV, postR, hW, hR, hp, hq, hk, hv⟩ := pr_add l Z.2.2.1 D C cD K KR adK adV ao Z.2.2.2.2.2.1.1.1 Z.2.2.2.2.2.1.1.2 Z.2.2.2.2.2.1.aoD u v o hI x1 x2
  refine lw_callW 485 Z (na := 4) (As := [.int x1, .int x2]) hW gL_law_L_add rfl ⟨rfl, rfl⟩ (by decide +kernel) ⟨Nat.le_of_ble_eq_true rfl, Nat.le_of_ble_eq_true rfl⟩ rfl rfl (Nat.le_of_ble_eq_true rfl) hcs dL_law_485 ?_
  rintro r ⟨q1, q2⟩ ⟨er, eo, hC⟩
  replace eo : q2 = o' := eo
  replace hC : CU q1 := hC
  rw [er]
  refine zz_world (P' := (PL D C cD K KR ao ad q1 v q2 od)) (fun _ h => h) ?_
  refine zz_istore 488 Z.1.1 (lv' := [(6, .int (nI kc)), (0, .ref b), (1, .ref (K 0)), (2, .ref (KR 0)), (3, .ref ao), (4, .ref ad), (5, .int (nI i))]) dL_law_488 (by decide) rfl ?_
  refine zz_aload_n 490 Z.1.1 3 dL_law_490 rfl ?_
  refine zz_aload_n 491 Z.1.1 1 dL_law_491 rfl ?_
  refine zz_iload 492 Z.1.1 6 dL_law_492 rfl ?_
  refine zz_iconst 494 Z.1.1 (v := nI 1) dL_law_494 rfl ?_
  refine zz_iadd 495 Z.1.1 (v := nI (i + 1)) dL_law_495 (nI_add i 1) ?_
  refine lw_sld 496 Z (j := i + 1) (by omega) e1 dL_law_496 ?_
  refine zz_aload_n 497 Z.1.1 1 dL_law_497 rfl ?_
  refine zz_iload 498 Z.1.1 6 dL_law_498 rfl ?_
  refine zz_iconst 500 Z.1.1 (v := nI 2) dL_law_500 rfl ?_
  refine zz_iadd 501 Z.1.1 (v := nI (i + 2)) dL_law_501 (nI_add i 2) ?_
  refine lw_sld 502 Z (j := i + 2) (by omega) e2 dL_law_502 ?_
  refine lw_callRi 503 Z (As := [.int x1, .int x2]) hR gL_law_X7_add rfl ⟨rfl, rfl⟩ yd_X7_add ⟨Nat.le_of_ble_eq_true rfl, Nat.le_of_ble_eq_true rfl⟩ rfl rfl (Nat.le_of_ble_eq_true rfl) hcs dL_law_503 ?_
  intro r2 w hw2
  obtain ⟨er2, hV⟩ := hp r2 w hw2
  rw [er2]
  have hIN := hq q1 w hC hV
  refine zz_istore 506 Z.1.1 (lv' := [(7, .int rb), (6, .int (nI kc)), (0, .ref b), (1, .ref (K 0)), (2, .ref (KR 0)), (3, .ref ao), (4, .ref ad), (5, .int (nI i))]) dL_law_506 (by decide) rfl ?_
  refine zz_aload_n 508 Z.1.1 4 dL_law_508 rfl ?_
  refine lw_callRi 509 Z (As := []) (kt_X7_thrown l D C KR Z.2.2.2.2.2.1.1.2 w.1 w.2.1 w.2.2.1 w.2.2.2 kc hIN.1) gL_law_X7_thrown rfl ⟨rfl, rfl⟩ yd_X7_thrown ⟨Nat.le_of_ble_eq_true rfl, Nat.le_of_ble_eq_true rfl⟩ rfl rfl (Nat.le_of_ble_eq_true rfl) hcs dL_law_509 ?_
  rintro r3 w3 ⟨er3, ew3⟩
  subst ew3
  rw [er3]
  refine zz_world (P' := (PL D C cD K KR ao ad q1 w q2 od)) (fun _ h => h) ?_
  refine zz_iload 512 Z.1.1 1 dL_law_512 rfl ?_
  refine zz_icmp_eq 514 519 Z.1.1 (nI_toInt (by omega)) (nI_toInt (by omega)) dL_law_514 (by decide) (fun h => ?_) (fun h => ?_)
  · skip
    refine zz_iload 519 Z.1.1 1 dL_law_519 rfl ?_
    refine zz_if_ne 521 543 Z.1.1 (nI_toInt (by omega)) dL_law_521 (by decide) (fun h0 => ?_) (fun h0 => ?_)
    · skip
      refine zz_goto 543 3988 Z.1.1 dL_law_543 (by decide) ?_
      refine zz_lvs [2, 3, 4, 5, 6, 7] rfl ?_
      exact kk q1 w q2 od _ _ hIN.2 (by omega) (by omega)
    · skip
      have hv0 := hv (by omega)
      rw [← eo] at hv0
      refine zz_aload_n 524 Z.1.1 5 dL_law_524 rfl ?_
      refine zz_iconst 525 Z.1.1 (v := nI 0) dL_law_525 rfl ?_
      refine lw_lld 526 Z dL_law_526 ?_
      refine zz_iload 527 Z.1.1 0 dL_law_527 rfl ?_
      refine zz_if_eq 529 536 Z.1.1 rfl dL_law_529 (by decide) (fun h7 => ?_) (fun h7 => ?_)
      · skip
        refine zz_lconst 536 Z.1.1 (v := 0) dL_law_536 (by decide) ?_
        refine zz_lcmp 537 Z.1.1 dL_law_537 ?_
        refine zz_ifL_eq 538 543 Z.1.1 dL_law_538 (by decide) (fun h => ?_) (fun h => ?_)
        · skip
          refine zz_goto 543 3988 Z.1.1 dL_law_543 (by decide) ?_
          refine zz_lvs [2, 3, 4, 5, 6, 7] rfl ?_
          exact kk q1 w q2 od _ _ hIN.2 (by omega) (by omega)
        · exact absurd (hv0.trans (if_pos (i32_z h7))) h
      · skip
        refine zz_lconst 532 Z.1.1 (v := 1) dL_law_532 (by decide) ?_
        refine zz_goto 533 537 Z.1.1 dL_law_533 (by decide) ?_
        refine zz_lcmp 537 Z.1.1 dL_law_537 ?_
        refine zz_ifL_eq 538 543 Z.1.1 dL_law_538 (by decide) (fun h => ?_) (fun h => ?_)
        · skip
          refine zz_goto 543 3988 Z.1.1 dL_law_543 (by decide) ?_
          refine zz_lvs [2, 3, 4, 5, 6, 7] rfl ?_
          exact kk q1 w q2 od _ _ hIN.2 (by omega) (by omega)
        · exact absurd (hv0.trans (if_neg (fun z => h7 (by rw [z]; rfl)))) h
  · exact absurd rfl h

set_option maxHeartbeats 8000000 in
set_option maxRecDepth 100000 in
theorem cs_remove {p : Program} {l : Launch} {e : Env} {s : State} {m : MethodId} {args : Array Value} {below : List Frame} {meth : Method} {c : Code} {Q : State → Prop} {D : va_G} {C : Nat → ClassId} {cD : ClassId} {K KR : Nat → Nat} {A : Nat → Prop} {adK adV : Nat → Nat} {ao ad b L : Nat} {xs : Nat → Int32} {u : CSt} {v : MSt} {o : Int64} {od : UInt64} {cells slots i : Nat} (Z : LCx p l s m args c meth A D C cD K KR adK adV ao ad b L xs) (hI : INV u v) (hi : i + 8 ≤ L) (hcs : cells + 1 ≤ room_1.cells ∧ slots + 6 ≤ room_1.slots) (kk : NXT p l e s m args below meth c Q A D C cD K KR ao ad b i cells slots) : ZZ p l e room_1 s m args below meth c cells slots Q A (PL D C cD K KR ao ad u v o od) 10 (lvL b (K 0) (KR 0) ao ad i) [] 546 := by
  obtain ⟨x1, e1⟩ : ∃ z : Int32, xs (i + 1) = z := ⟨_, rfl⟩
  obtain ⟨x2, e2⟩ : ∃ z : Int32, xs (i + 2) = z := ⟨_, rfl⟩
  refine zz_aload_n 546 Z.1.1 1 dL_law_546 rfl ?_
  refine zz_aload_n 547 Z.1.1 0 dL_law_547 rfl ?_
  refine zz_iload 548 Z.1.1 5 dL_law_548 rfl ?_
  refine zz_iconst 550 Z.1.1 (v := nI 1) dL_law_550 rfl ?_
  refine zz_iadd 551 Z.1.1 (v := nI (i + 1)) dL_law_551 (nI_add i 1) ?_
  refine lw_sld 552 Z (j := i + 1) (by omega) e1 dL_law_552 ?_
  refine zz_aload_n 553 Z.1.1 0 dL_law_553 rfl ?_
  refine zz_iload 554 Z.1.1 5 dL_law_554 rfl ?_
  refine zz_iconst 556 Z.1.1 (v := nI 2) dL_law_556 rfl ?_
  refine zz_iadd 557 Z.1.1 (v := nI (i + 2)) dL_law_557 (nI_add i 2) ?_
  refine lw_sld 558 Z (j := i + 2) (by omega) e2 dL_law_558 ?_
  refine zz_aload_n 559 Z.1.1 3 dL_law_559 rfl ?_
  obtain ⟨kc, rb, o', CU, RV, postR, hW, hR, hp, hq, hk, hv⟩ := pr_remove l Z.2.2.1 D C cD K KR adK adV ao Z.2.2.2.2.2.1.1.1 Z.2.2.2.2.2.1.1.2 Z.2.2.2.2.2.1.aoD u v o hI x1 x2
  refine lw_callW 560 Z (na := 4) (As := [.int x1, .int x2]) hW gL_law_L_remove rfl ⟨rfl, rfl⟩ (by decide +kernel) ⟨Nat.le_of_ble_eq_true rfl, Nat.le_of_ble_eq_true rfl⟩ rfl rfl (Nat.le_of_ble_eq_true rfl) hcs dL_law_560 ?_
  rintro r ⟨q1, q2⟩ ⟨er, eo, hC⟩
  replace eo : q2 = o' := eo
  replace hC : CU q1 := hC
  rw [er]
  refine zz_world (P' := (PL D C cD K KR ao ad q1 v q2 od)) (fun _ h => h) ?_
  refine zz_istore 563 Z.1.1 (lv' := [(6, .int (nI kc)), (0, .ref b), (1, .ref (K 0)), (2, .ref (KR 0)), (3, .ref ao), (4, .ref ad), (5, .int (nI i))]) dL_law_563 (by decide) rfl ?_
  refine zz_aload_n 565 Z.1.1 3 dL_law_565 rfl ?_
  refine zz_aload_n 566 Z.1.1 1 dL_law_566 rfl ?_
  refine zz_iload 567 Z.1.1 6 dL_law_567 rfl ?_
  refine zz_iconst 569 Z.1.1 (v := nI 1) dL_law_569 rfl ?_
  refine zz_iadd 570 Z.1.1 (v := nI (i + 1)) dL_law_570 (nI_add i 1) ?_
  refine lw_sld 571 Z (j := i + 1) (by omega) e1 dL_law_571 ?_
  refine zz_aload_n 572 Z.1.1 1 dL_law_572 rfl ?_
  refine zz_iload 573 Z.1.1 6 dL_law_573 rfl ?_
  refine zz_iconst 575 Z.1.1 (v := nI 2) dL_law_575 rfl ?_
  refine zz_iadd 576 Z.1.1 (v := nI (i + 2)) dL_law_576 (nI_add i 2) ?_
  refine lw_sld 577 Z (j := i + 2) (by omega) e2 dL_law_577 ?_
  refine lw_callRi 578 Z (As := [.int x1, .int x2]) hR gL_law_X7_remove rfl ⟨rfl, rfl⟩ yd_X7_remove ⟨Nat.le_of_ble_eq_true rfl, Nat.le_of_ble_eq_true rfl⟩ rfl rfl (Nat.le_of_ble_eq_true rfl) hcs dL_law_578 ?_
  intro r2 w hw2
  obtain ⟨er2, hV⟩ := hp r2 w hw2
  rw [er2]
  have hIN := hq q1 w hC hV
  refine zz_istore 581 Z.1.1 (lv' := [(7, .int rb), (6, .int (nI kc)), (0, .ref b), (1, .ref (K 0)), (2, .ref (KR 0)), (3, .ref ao), (4, .ref ad), (5, .int (nI i))]) dL_law_581 (by decide) rfl ?_
  refine zz_aload_n 583 Z.1.1 4 dL_law_583 rfl ?_
  refine lw_callRi 584 Z (As := []) (kt_X7_thrown l D C KR Z.2.2.2.2.2.1.1.2 w.1 w.2.1 w.2.2.1 w.2.2.2 kc hIN.1) gL_law_X7_thrown rfl ⟨rfl, rfl⟩ yd_X7_thrown ⟨Nat.le_of_ble_eq_true rfl, Nat.le_of_ble_eq_true rfl⟩ rfl rfl (Nat.le_of_ble_eq_true rfl) hcs dL_law_584 ?_
  rintro r3 w3 ⟨er3, ew3⟩
  subst ew3
  rw [er3]
  refine zz_world (P' := (PL D C cD K KR ao ad q1 w q2 od)) (fun _ h => h) ?_
  refine zz_iload 587 Z.1.1 1 dL_law_587 rfl ?_
  refine zz_icmp_eq 589 594 Z.1.1 (nI_toInt (by omega)) (nI_toInt (by omega)) dL_law_589 (by decide) (fun h => ?_) (fun h => ?_)
  · skip
    refine zz_iload 594 Z.1.1 1 dL_law_594 rfl ?_
    refine zz_if_ne 596 618 Z.1.1 (nI_toInt (by omega)) dL_law_596 (by decide) (fun h0 => ?_) (fun h0 => ?_)
    · skip
      refine zz_goto 618 3988 Z.1.1 dL_law_618 (by decide) ?_
      refine zz_lvs [2, 3, 4, 5, 6, 7] rfl ?_
      exact kk q1 w q2 od _ _ hIN.2 (by omega) (by omega)
    · skip
      have hv0 := hv (by omega)
      rw [← eo] at hv0
      refine zz_aload_n 599 Z.1.1 5 dL_law_599 rfl ?_
      refine zz_iconst 600 Z.1.1 (v := nI 0) dL_law_600 rfl ?_
      refine lw_lld 601 Z dL_law_601 ?_
      refine zz_iload 602 Z.1.1 0 dL_law_602 rfl ?_
      refine zz_if_eq 604 611 Z.1.1 rfl dL_law_604 (by decide) (fun h7 => ?_) (fun h7 => ?_)
      · skip
        refine zz_lconst 611 Z.1.1 (v := 0) dL_law_611 (by decide) ?_
        refine zz_lcmp 612 Z.1.1 dL_law_612 ?_
        refine zz_ifL_eq 613 618 Z.1.1 dL_law_613 (by decide) (fun h => ?_) (fun h => ?_)
        · skip
          refine zz_goto 618 3988 Z.1.1 dL_law_618 (by decide) ?_
          refine zz_lvs [2, 3, 4, 5, 6, 7] rfl ?_
          exact kk q1 w q2 od _ _ hIN.2 (by omega) (by omega)
        · exact absurd (hv0.trans (if_pos (i32_z h7))) h
      · skip
        refine zz_lconst 607 Z.1.1 (v := 1) dL_law_607 (by decide) ?_
        refine zz_goto 608 612 Z.1.1 dL_law_608 (by decide) ?_
        refine zz_lcmp 612 Z.1.1 dL_law_612 ?_
        refine zz_ifL_eq 613 618 Z.1.1 dL_law_613 (by decide) (fun h => ?_) (fun h => ?_)
        · skip
          refine zz_goto 618 3988 Z.1.1 dL_law_618 (by decide) ?_
          refine zz_lvs [2, 3, 4, 5, 6, 7] rfl ?_
          exact kk q1 w q2 od _ _ hIN.2 (by omega) (by omega)
        · exact absurd (hv0.trans (if_neg (fun z => h7 (by rw [z]; rfl)))) h
  · exact absurd rfl h

set_option maxHeartbeats 8000000 in
set_option maxRecDepth 100000 in
theorem cs_put {p : Program} {l : Launch} {e : Env} {s : State} {m : MethodId} {args : Array Value} {below : List Frame} {meth : Method} {c : Code} {Q : State → Prop} {D : va_G} {C : Nat → ClassId} {cD : ClassId} {K KR : Nat → Nat} {A : Nat → Prop} {adK adV : Nat → Nat} {ao ad b L : Nat} {xs : Nat → Int32} {u : CSt} {v : MSt} {o : Int64} {od : UInt64} {cells slots i : Nat} (Z : LCx p l s m args c meth A D C cD K KR adK adV ao ad b L xs) (hI : INV u v) (hi : i + 8 ≤ L) (hcs : cells + 1 ≤ room_1.cells ∧ slots + 6 ≤ room_1.slots) (kk : NXT p l e s m args below meth c Q A D C cD K KR ao ad b i cells slots) : ZZ p l e room_1 s m args below meth c cells slots Q A (PL D C cD K KR ao ad u v o od) 10 (lvL b (K 0) (KR 0) ao ad i) [] 621 := by
  obtain ⟨x1, e1⟩ : ∃ z : Int32, xs (i + 1) = z := ⟨_, rfl⟩
  obtain ⟨x2, e2⟩ : ∃ z : Int32, xs (i + 2) = z := ⟨_, rfl⟩
  obtain ⟨x3, e3⟩ : ∃ z : Int32, xs (i + 3) = z := ⟨_, rfl⟩
  refine zz_aload_n 621 Z.1.1 1 dL_law_621 rfl ?_
  refine zz_aload_n 622 Z.1.1 0 dL_law_622 rfl ?_
  refine zz_iload 623 Z.1.1 5 dL_law_623 rfl ?_
  refine zz_iconst 625 Z.1.1 (v := nI 1) dL_law_625 rfl ?_
  refine zz_iadd 626 Z.1.1 (v := nI (i + 1)) dL_law_626 (nI_add i 1) ?_
  refine lw_sld 627 Z (j := i + 1) (by omega) e1 dL_law_627 ?_
  refine zz_aload_n 628 Z.1.1 0 dL_law_628 rfl ?_
  refine zz_iload 629 Z.1.1 5 dL_law_629 rfl ?_
  refine zz_iconst 631 Z.1.1 (v := nI 2) dL_law_631 rfl ?_
  refine zz_iadd 632 Z.1.1 (v := nI (i + 2)) dL_law_632 (nI_add i 2) ?_
  refine lw_sld 633 Z (j := i + 2) (by omega) e2 dL_law_633 ?_
  refine zz_aload_n 634 Z.1.1 0 dL_law_634 rfl ?_
  refine zz_iload 635 Z.1.1 5 dL_law_635 rfl ?_
  refine zz_iconst 637 Z.1.1 (v := nI 3) dL_law_637 rfl ?_
  refine zz_iadd 638 Z.1.1 (v := nI (i + 3)) dL_law_638 (nI_add i 3) ?_
  refine lw_sld 639 Z (j := i + 3) (by omega) e3 dL_law_639 ?_
  refine zz_if_eq 640 647 Z.1.1 rfl dL_law_640 (by decide) (fun hb => ?_) (fun hb => ?_)
  · skip
    refine zz_iconst 647 Z.1.1 (v := nI 0) dL_law_647 rfl ?_
    refine zz_topi (bI false) rfl ?_
    refine zz_aload_n 648 Z.1.1 3 dL_law_648 rfl ?_
    obtain ⟨kc, rb, o', CU, RV, postR, hW, hR, hp, hq, hk, hv⟩ := pr_put l Z.2.2.1 D C cD K KR adK adV ao Z.2.2.2.2.2.1.1.1 Z.2.2.2.2.2.1.1.2 Z.2.2.2.2.2.1.aoD u v o hI x1 x2 false
    refine lw_callW 649 Z (na := 5) (As := [.int x1, .int x2, .int (bI false)]) hW gL_law_L_put rfl ⟨rfl, rfl⟩ (by decide +kernel) ⟨Nat.le_of_ble_eq_true rfl, Nat.le_of_ble_eq_true rfl⟩ rfl rfl (Nat.le_of_ble_eq_true rfl) hcs dL_law_649 ?_
    rintro r ⟨q1, q2⟩ ⟨er, eo, hC⟩
    replace eo : q2 = o' := eo
    replace hC : CU q1 := hC
    rw [er]
    refine zz_world (P' := (PL D C cD K KR ao ad q1 v q2 od)) (fun _ h => h) ?_
    refine zz_istore 652 Z.1.1 (lv' := [(6, .int (nI kc)), (0, .ref b), (1, .ref (K 0)), (2, .ref (KR 0)), (3, .ref ao), (4, .ref ad), (5, .int (nI i))]) dL_law_652 (by decide) rfl ?_
    refine zz_aload_n 654 Z.1.1 3 dL_law_654 rfl ?_
    refine zz_aload_n 655 Z.1.1 1 dL_law_655 rfl ?_
    refine zz_iload 656 Z.1.1 6 dL_law_656 rfl ?_
    refine zz_iconst 658 Z.1.1 (v := nI 1) dL_law_658 rfl ?_
    refine zz_iadd 659 Z.1.1 (v := nI (i + 1)) dL_law_659 (nI_add i 1) ?_
    refine lw_sld 660 Z (j := i + 1) (by omega) e1 dL_law_660 ?_
    refine zz_aload_n 661 Z.1.1 1 dL_law_661 rfl ?_
    refine zz_iload 662 Z.1.1 6 dL_law_662 rfl ?_
    refine zz_iconst 664 Z.1.1 (v := nI 2) dL_law_664 rfl ?_
    refine zz_iadd 665 Z.1.1 (v := nI (i + 2)) dL_law_665 (nI_add i 2) ?_
    refine lw_sld 666 Z (j := i + 2) (by omega) e2 dL_law_666 ?_
    refine zz_aload_n 667 Z.1.1 1 dL_law_667 rfl ?_
    refine zz_iload 668 Z.1.1 6 dL_law_668 rfl ?_
    refine zz_iconst 670 Z.1.1 (v := nI 3) dL_law_670 rfl ?_
    refine zz_iadd 671 Z.1.1 (v := nI (i + 3)) dL_law_671 (nI_add i 3) ?_
    refine lw_sld 672 Z (j := i + 3) (by omega) e3 dL_law_672 ?_
    refine zz_if_eq 673 680 Z.1.1 rfl dL_law_673 (by decide) (fun h => ?_) (fun h => ?_)
    · skip
      refine zz_iconst 680 Z.1.1 (v := nI 0) dL_law_680 rfl ?_
      refine zz_topi (bI false) rfl ?_
      refine lw_callRi 681 Z (As := [.int x1, .int x2, .int (bI false)]) hR gL_law_X7_put rfl ⟨rfl, rfl⟩ yd_X7_put ⟨Nat.le_of_ble_eq_true rfl, Nat.le_of_ble_eq_true rfl⟩ rfl rfl (Nat.le_of_ble_eq_true rfl) hcs dL_law_681 ?_
      intro r2 w hw2
      obtain ⟨er2, hV⟩ := hp r2 w hw2
      rw [er2]
      have hIN := hq q1 w hC hV
      refine zz_istore 684 Z.1.1 (lv' := [(7, .int rb), (6, .int (nI kc)), (0, .ref b), (1, .ref (K 0)), (2, .ref (KR 0)), (3, .ref ao), (4, .ref ad), (5, .int (nI i))]) dL_law_684 (by decide) rfl ?_
      refine zz_aload_n 686 Z.1.1 4 dL_law_686 rfl ?_
      refine lw_callRi 687 Z (As := []) (kt_X7_thrown l D C KR Z.2.2.2.2.2.1.1.2 w.1 w.2.1 w.2.2.1 w.2.2.2 kc hIN.1) gL_law_X7_thrown rfl ⟨rfl, rfl⟩ yd_X7_thrown ⟨Nat.le_of_ble_eq_true rfl, Nat.le_of_ble_eq_true rfl⟩ rfl rfl (Nat.le_of_ble_eq_true rfl) hcs dL_law_687 ?_
      rintro r3 w3 ⟨er3, ew3⟩
      subst ew3
      rw [er3]
      refine zz_world (P' := (PL D C cD K KR ao ad q1 w q2 od)) (fun _ h => h) ?_
      refine zz_iload 690 Z.1.1 1 dL_law_690 rfl ?_
      refine zz_icmp_eq 692 697 Z.1.1 (nI_toInt (by omega)) (nI_toInt (by omega)) dL_law_692 (by decide) (fun h => ?_) (fun h => ?_)
      · skip
        refine zz_iload 697 Z.1.1 1 dL_law_697 rfl ?_
        refine zz_if_ne 699 721 Z.1.1 (nI_toInt (by omega)) dL_law_699 (by decide) (fun h0 => ?_) (fun h0 => ?_)
        · skip
          refine zz_goto 721 3988 Z.1.1 dL_law_721 (by decide) ?_
          refine zz_lvs [2, 3, 4, 5, 6, 7] rfl ?_
          exact kk q1 w q2 od _ _ hIN.2 (by omega) (by omega)
        · skip
          have hv0 := hv (by omega)
          rw [← eo] at hv0
          refine zz_aload_n 702 Z.1.1 5 dL_law_702 rfl ?_
          refine zz_iconst 703 Z.1.1 (v := nI 0) dL_law_703 rfl ?_
          refine lw_lld 704 Z dL_law_704 ?_
          refine zz_iload 705 Z.1.1 0 dL_law_705 rfl ?_
          refine zz_if_eq 707 714 Z.1.1 rfl dL_law_707 (by decide) (fun h7 => ?_) (fun h7 => ?_)
          · skip
            refine zz_lconst 714 Z.1.1 (v := 0) dL_law_714 (by decide) ?_
            refine zz_lcmp 715 Z.1.1 dL_law_715 ?_
            refine zz_ifL_eq 716 721 Z.1.1 dL_law_716 (by decide) (fun h => ?_) (fun h => ?_)
            · skip
              refine zz_goto 721 3988 Z.1.1 dL_law_721 (by decide) ?_
              refine zz_lvs [2, 3, 4, 5, 6, 7] rfl ?_
              exact kk q1 w q2 od _ _ hIN.2 (by omega) (by omega)
            · exact absurd (hv0.trans (if_pos (i32_z h7))) h
          · skip
            refine zz_lconst 710 Z.1.1 (v := 1) dL_law_710 (by decide) ?_
            refine zz_goto 711 715 Z.1.1 dL_law_711 (by decide) ?_
            refine zz_lcmp 715 Z.1.1 dL_law_715 ?_
            refine zz_ifL_eq 716 721 Z.1.1 dL_law_716 (by decide) (fun h => ?_) (fun h => ?_)
            · skip
              refine zz_goto 721 3988 Z.1.1 dL_law_721 (by decide) ?_
              refine zz_lvs [2, 3, 4, 5, 6, 7] rfl ?_
              exact kk q1 w q2 od _ _ hIN.2 (by omega) (by omega)
            · exact absurd (hv0.trans (if_neg (fun z => h7 (by rw [z]; rfl)))) h
      · exact absurd rfl h
    · exact absurd hb h
  · skip
    refine zz_iconst 643 Z.1.1 (v := nI 1) dL_law_643 rfl ?_
    refine zz_topi (bI true) rfl ?_
    refine zz_goto 644 648 Z.1.1 dL_law_644 (by decide) ?_
    refine zz_aload_n 648 Z.1.1 3 dL_law_648 rfl ?_
    obtain ⟨kc, rb, o', CU, RV, postR, hW, hR, hp, hq, hk, hv⟩ := pr_put l Z.2.2.1 D C cD K KR adK adV ao Z.2.2.2.2.2.1.1.1 Z.2.2.2.2.2.1.1.2 Z.2.2.2.2.2.1.aoD u v o hI x1 x2 true
    refine lw_callW 649 Z (na := 5) (As := [.int x1, .int x2, .int (bI true)]) hW gL_law_L_put rfl ⟨rfl, rfl⟩ (by decide +kernel) ⟨Nat.le_of_ble_eq_true rfl, Nat.le_of_ble_eq_true rfl⟩ rfl rfl (Nat.le_of_ble_eq_true rfl) hcs dL_law_649 ?_
    rintro r ⟨q1, q2⟩ ⟨er, eo, hC⟩
    replace eo : q2 = o' := eo
    replace hC : CU q1 := hC
    rw [er]
    refine zz_world (P' := (PL D C cD K KR ao ad q1 v q2 od)) (fun _ h => h) ?_
    refine zz_istore 652 Z.1.1 (lv' := [(6, .int (nI kc)), (0, .ref b), (1, .ref (K 0)), (2, .ref (KR 0)), (3, .ref ao), (4, .ref ad), (5, .int (nI i))]) dL_law_652 (by decide) rfl ?_
    refine zz_aload_n 654 Z.1.1 3 dL_law_654 rfl ?_
    refine zz_aload_n 655 Z.1.1 1 dL_law_655 rfl ?_
    refine zz_iload 656 Z.1.1 6 dL_law_656 rfl ?_
    refine zz_iconst 658 Z.1.1 (v := nI 1) dL_law_658 rfl ?_
    refine zz_iadd 659 Z.1.1 (v := nI (i + 1)) dL_law_659 (nI_add i 1) ?_
    refine lw_sld 660 Z (j := i + 1) (by omega) e1 dL_law_660 ?_
    refine zz_aload_n 661 Z.1.1 1 dL_law_661 rfl ?_
    refine zz_iload 662 Z.1.1 6 dL_law_662 rfl ?_
    refine zz_iconst 664 Z.1.1 (v := nI 2) dL_law_664 rfl ?_
    refine zz_iadd 665 Z.1.1 (v := nI (i + 2)) dL_law_665 (nI_add i 2) ?_
    refine lw_sld 666 Z (j := i + 2) (by omega) e2 dL_law_666 ?_
    refine zz_aload_n 667 Z.1.1 1 dL_law_667 rfl ?_
    refine zz_iload 668 Z.1.1 6 dL_law_668 rfl ?_
    refine zz_iconst 670 Z.1.1 (v := nI 3) dL_law_670 rfl ?_
    refine zz_iadd 671 Z.1.1 (v := nI (i + 3)) dL_law_671 (nI_add i 3) ?_
    refine lw_sld 672 Z (j := i + 3) (by omega) e3 dL_law_672 ?_
    refine zz_if_eq 673 680 Z.1.1 rfl dL_law_673 (by decide) (fun h => ?_) (fun h => ?_)
    · exact absurd h hb
    · skip
      refine zz_iconst 676 Z.1.1 (v := nI 1) dL_law_676 rfl ?_
      refine zz_topi (bI true) rfl ?_
      refine zz_goto 677 681 Z.1.1 dL_law_677 (by decide) ?_
      refine lw_callRi 681 Z (As := [.int x1, .int x2, .int (bI true)]) hR gL_law_X7_put rfl ⟨rfl, rfl⟩ yd_X7_put ⟨Nat.le_of_ble_eq_true rfl, Nat.le_of_ble_eq_true rfl⟩ rfl rfl (Nat.le_of_ble_eq_true rfl) hcs dL_law_681 ?_
      intro r2 w hw2
      obtain ⟨er2, hV⟩ := hp r2 w hw2
      rw [er2]
      have hIN := hq q1 w hC hV
      refine zz_istore 684 Z.1.1 (lv' := [(7, .int rb), (6, .int (nI kc)), (0, .ref b), (1, .ref (K 0)), (2, .ref (KR 0)), (3, .ref ao), (4, .ref ad), (5, .int (nI i))]) dL_law_684 (by decide) rfl ?_
      refine zz_aload_n 686 Z.1.1 4 dL_law_686 rfl ?_
      refine lw_callRi 687 Z (As := []) (kt_X7_thrown l D C KR Z.2.2.2.2.2.1.1.2 w.1 w.2.1 w.2.2.1 w.2.2.2 kc hIN.1) gL_law_X7_thrown rfl ⟨rfl, rfl⟩ yd_X7_thrown ⟨Nat.le_of_ble_eq_true rfl, Nat.le_of_ble_eq_true rfl⟩ rfl rfl (Nat.le_of_ble_eq_true rfl) hcs dL_law_687 ?_
      rintro r3 w3 ⟨er3, ew3⟩
      subst ew3
      rw [er3]
      refine zz_world (P' := (PL D C cD K KR ao ad q1 w q2 od)) (fun _ h => h) ?_
      refine zz_iload 690 Z.1.1 1 dL_law_690 rfl ?_
      refine zz_icmp_eq 692 697 Z.1.1 (nI_toInt (by omega)) (nI_toInt (by omega)) dL_law_692 (by decide) (fun h => ?_) (fun h => ?_)
      · skip
        refine zz_iload 697 Z.1.1 1 dL_law_697 rfl ?_
        refine zz_if_ne 699 721 Z.1.1 (nI_toInt (by omega)) dL_law_699 (by decide) (fun h0 => ?_) (fun h0 => ?_)
        · skip
          refine zz_goto 721 3988 Z.1.1 dL_law_721 (by decide) ?_
          refine zz_lvs [2, 3, 4, 5, 6, 7] rfl ?_
          exact kk q1 w q2 od _ _ hIN.2 (by omega) (by omega)
        · skip
          have hv0 := hv (by omega)
          rw [← eo] at hv0
          refine zz_aload_n 702 Z.1.1 5 dL_law_702 rfl ?_
          refine zz_iconst 703 Z.1.1 (v := nI 0) dL_law_703 rfl ?_
          refine lw_lld 704 Z dL_law_704 ?_
          refine zz_iload 705 Z.1.1 0 dL_law_705 rfl ?_
          refine zz_if_eq 707 714 Z.1.1 rfl dL_law_707 (by decide) (fun h7 => ?_) (fun h7 => ?_)
          · skip
            refine zz_lconst 714 Z.1.1 (v := 0) dL_law_714 (by decide) ?_
            refine zz_lcmp 715 Z.1.1 dL_law_715 ?_
            refine zz_ifL_eq 716 721 Z.1.1 dL_law_716 (by decide) (fun h => ?_) (fun h => ?_)
            · skip
              refine zz_goto 721 3988 Z.1.1 dL_law_721 (by decide) ?_
              refine zz_lvs [2, 3, 4, 5, 6, 7] rfl ?_
              exact kk q1 w q2 od _ _ hIN.2 (by omega) (by omega)
            · exact absurd (hv0.trans (if_pos (i32_z h7))) h
          · skip
            refine zz_lconst 710 Z.1.1 (v := 1) dL_law_710 (by decide) ?_
            refine zz_goto 711 715 Z.1.1 dL_law_711 (by decide) ?_
            refine zz_lcmp 715 Z.1.1 dL_law_715 ?_
            refine zz_ifL_eq 716 721 Z.1.1 dL_law_716 (by decide) (fun h => ?_) (fun h => ?_)
            · skip
              refine zz_goto 721 3988 Z.1.1 dL_law_721 (by decide) ?_
              refine zz_lvs [2, 3, 4, 5, 6, 7] rfl ?_
              exact kk q1 w q2 od _ _ hIN.2 (by omega) (by omega)
            · exact absurd (hv0.trans (if_neg (fun z => h7 (by rw [z]; rfl)))) h
      · exact absurd rfl h

set_option maxHeartbeats 8000000 in
set_option maxRecDepth 100000 in
theorem cs_flip {p : Program} {l : Launch} {e : Env} {s : State} {m : MethodId} {args : Array Value} {below : List Frame} {meth : Method} {c : Code} {Q : State → Prop} {D : va_G} {C : Nat → ClassId} {cD : ClassId} {K KR : Nat → Nat} {A : Nat → Prop} {adK adV : Nat → Nat} {ao ad b L : Nat} {xs : Nat → Int32} {u : CSt} {v : MSt} {o : Int64} {od : UInt64} {cells slots i : Nat} (Z : LCx p l s m args c meth A D C cD K KR adK adV ao ad b L xs) (hI : INV u v) (hi : i + 8 ≤ L) (hcs : cells + 1 ≤ room_1.cells ∧ slots + 6 ≤ room_1.slots) (kk : NXT p l e s m args below meth c Q A D C cD K KR ao ad b i cells slots) : ZZ p l e room_1 s m args below meth c cells slots Q A (PL D C cD K KR ao ad u v o od) 10 (lvL b (K 0) (KR 0) ao ad i) [] 724 := by
  obtain ⟨x1, e1⟩ : ∃ z : Int32, xs (i + 1) = z := ⟨_, rfl⟩
  obtain ⟨x2, e2⟩ : ∃ z : Int32, xs (i + 2) = z := ⟨_, rfl⟩
  refine zz_aload_n 724 Z.1.1 1 dL_law_724 rfl ?_
  refine zz_aload_n 725 Z.1.1 0 dL_law_725 rfl ?_
  refine zz_iload 726 Z.1.1 5 dL_law_726 rfl ?_
  refine zz_iconst 728 Z.1.1 (v := nI 1) dL_law_728 rfl ?_
  refine zz_iadd 729 Z.1.1 (v := nI (i + 1)) dL_law_729 (nI_add i 1) ?_
  refine lw_sld 730 Z (j := i + 1) (by omega) e1 dL_law_730 ?_
  refine zz_aload_n 731 Z.1.1 0 dL_law_731 rfl ?_
  refine zz_iload 732 Z.1.1 5 dL_law_732 rfl ?_
  refine zz_iconst 734 Z.1.1 (v := nI 2) dL_law_734 rfl ?_
  refine zz_iadd 735 Z.1.1 (v := nI (i + 2)) dL_law_735 (nI_add i 2) ?_
  refine lw_sld 736 Z (j := i + 2) (by omega) e2 dL_law_736 ?_
  refine zz_aload_n 737 Z.1.1 3 dL_law_737 rfl ?_
  obtain ⟨kc, rb, o', CU, RV, postR, hW, hR, hp, hq, hk, hv⟩ := pr_flip l Z.2.2.1 D C cD K KR adK adV ao Z.2.2.2.2.2.1.1.1 Z.2.2.2.2.2.1.1.2 Z.2.2.2.2.2.1.aoD u v o hI x1 x2
  refine lw_callW 738 Z (na := 4) (As := [.int x1, .int x2]) hW gL_law_L_flip rfl ⟨rfl, rfl⟩ (by decide +kernel) ⟨Nat.le_of_ble_eq_true rfl, Nat.le_of_ble_eq_true rfl⟩ rfl rfl (Nat.le_of_ble_eq_true rfl) hcs dL_law_738 ?_
  rintro r ⟨q1, q2⟩ ⟨er, eo, hC⟩
  replace eo : q2 = o' := eo
  replace hC : CU q1 := hC
  rw [er]
  refine zz_world (P' := (PL D C cD K KR ao ad q1 v q2 od)) (fun _ h => h) ?_
  refine zz_istore 741 Z.1.1 (lv' := [(6, .int (nI kc)), (0, .ref b), (1, .ref (K 0)), (2, .ref (KR 0)), (3, .ref ao), (4, .ref ad), (5, .int (nI i))]) dL_law_741 (by decide) rfl ?_
  refine zz_aload_n 743 Z.1.1 3 dL_law_743 rfl ?_
  refine zz_aload_n 744 Z.1.1 1 dL_law_744 rfl ?_
  refine zz_iload 745 Z.1.1 6 dL_law_745 rfl ?_
  refine zz_iconst 747 Z.1.1 (v := nI 1) dL_law_747 rfl ?_
  refine zz_iadd 748 Z.1.1 (v := nI (i + 1)) dL_law_748 (nI_add i 1) ?_
  refine lw_sld 749 Z (j := i + 1) (by omega) e1 dL_law_749 ?_
  refine zz_aload_n 750 Z.1.1 1 dL_law_750 rfl ?_
  refine zz_iload 751 Z.1.1 6 dL_law_751 rfl ?_
  refine zz_iconst 753 Z.1.1 (v := nI 2) dL_law_753 rfl ?_
  refine zz_iadd 754 Z.1.1 (v := nI (i + 2)) dL_law_754 (nI_add i 2) ?_
  refine lw_sld 755 Z (j := i + 2) (by omega) e2 dL_law_755 ?_
  refine lw_callRi 756 Z (As := [.int x1, .int x2]) hR gL_law_X7_flip rfl ⟨rfl, rfl⟩ yd_X7_flip ⟨Nat.le_of_ble_eq_true rfl, Nat.le_of_ble_eq_true rfl⟩ rfl rfl (Nat.le_of_ble_eq_true rfl) hcs dL_law_756 ?_
  intro r2 w hw2
  obtain ⟨er2, hV⟩ := hp r2 w hw2
  rw [er2]
  have hIN := hq q1 w hC hV
  refine zz_istore 759 Z.1.1 (lv' := [(7, .int rb), (6, .int (nI kc)), (0, .ref b), (1, .ref (K 0)), (2, .ref (KR 0)), (3, .ref ao), (4, .ref ad), (5, .int (nI i))]) dL_law_759 (by decide) rfl ?_
  refine zz_aload_n 761 Z.1.1 4 dL_law_761 rfl ?_
  refine lw_callRi 762 Z (As := []) (kt_X7_thrown l D C KR Z.2.2.2.2.2.1.1.2 w.1 w.2.1 w.2.2.1 w.2.2.2 kc hIN.1) gL_law_X7_thrown rfl ⟨rfl, rfl⟩ yd_X7_thrown ⟨Nat.le_of_ble_eq_true rfl, Nat.le_of_ble_eq_true rfl⟩ rfl rfl (Nat.le_of_ble_eq_true rfl) hcs dL_law_762 ?_
  rintro r3 w3 ⟨er3, ew3⟩
  subst ew3
  rw [er3]
  refine zz_world (P' := (PL D C cD K KR ao ad q1 w q2 od)) (fun _ h => h) ?_
  refine zz_iload 765 Z.1.1 1 dL_law_765 rfl ?_
  refine zz_icmp_eq 767 772 Z.1.1 (nI_toInt (by omega)) (nI_toInt (by omega)) dL_law_767 (by decide) (fun h => ?_) (fun h => ?_)
  · skip
    refine zz_iload 772 Z.1.1 1 dL_law_772 rfl ?_
    refine zz_if_ne 774 796 Z.1.1 (nI_toInt (by omega)) dL_law_774 (by decide) (fun h0 => ?_) (fun h0 => ?_)
    · skip
      refine zz_goto 796 3988 Z.1.1 dL_law_796 (by decide) ?_
      refine zz_lvs [2, 3, 4, 5, 6, 7] rfl ?_
      exact kk q1 w q2 od _ _ hIN.2 (by omega) (by omega)
    · skip
      have hv0 := hv (by omega)
      rw [← eo] at hv0
      refine zz_aload_n 777 Z.1.1 5 dL_law_777 rfl ?_
      refine zz_iconst 778 Z.1.1 (v := nI 0) dL_law_778 rfl ?_
      refine lw_lld 779 Z dL_law_779 ?_
      refine zz_iload 780 Z.1.1 0 dL_law_780 rfl ?_
      refine zz_if_eq 782 789 Z.1.1 rfl dL_law_782 (by decide) (fun h7 => ?_) (fun h7 => ?_)
      · skip
        refine zz_lconst 789 Z.1.1 (v := 0) dL_law_789 (by decide) ?_
        refine zz_lcmp 790 Z.1.1 dL_law_790 ?_
        refine zz_ifL_eq 791 796 Z.1.1 dL_law_791 (by decide) (fun h => ?_) (fun h => ?_)
        · skip
          refine zz_goto 796 3988 Z.1.1 dL_law_796 (by decide) ?_
          refine zz_lvs [2, 3, 4, 5, 6, 7] rfl ?_
          exact kk q1 w q2 od _ _ hIN.2 (by omega) (by omega)
        · exact absurd (hv0.trans (if_pos (i32_z h7))) h
      · skip
        refine zz_lconst 785 Z.1.1 (v := 1) dL_law_785 (by decide) ?_
        refine zz_goto 786 790 Z.1.1 dL_law_786 (by decide) ?_
        refine zz_lcmp 790 Z.1.1 dL_law_790 ?_
        refine zz_ifL_eq 791 796 Z.1.1 dL_law_791 (by decide) (fun h => ?_) (fun h => ?_)
        · skip
          refine zz_goto 796 3988 Z.1.1 dL_law_796 (by decide) ?_
          refine zz_lvs [2, 3, 4, 5, 6, 7] rfl ?_
          exact kk q1 w q2 od _ _ hIN.2 (by omega) (by omega)
        · exact absurd (hv0.trans (if_neg (fun z => h7 (by rw [z]; rfl)))) h
  · exact absurd rfl h

set_option maxHeartbeats 8000000 in
set_option maxRecDepth 100000 in
theorem cs_addRange {p : Program} {l : Launch} {e : Env} {s : State} {m : MethodId} {args : Array Value} {below : List Frame} {meth : Method} {c : Code} {Q : State → Prop} {D : va_G} {C : Nat → ClassId} {cD : ClassId} {K KR : Nat → Nat} {A : Nat → Prop} {adK adV : Nat → Nat} {ao ad b L : Nat} {xs : Nat → Int32} {u : CSt} {v : MSt} {o : Int64} {od : UInt64} {cells slots i : Nat} (Z : LCx p l s m args c meth A D C cD K KR adK adV ao ad b L xs) (hI : INV u v) (hi : i + 8 ≤ L) (hcs : cells + 1 ≤ room_1.cells ∧ slots + 6 ≤ room_1.slots) (kk : NXT p l e s m args below meth c Q A D C cD K KR ao ad b i cells slots) : ZZ p l e room_1 s m args below meth c cells slots Q A (PL D C cD K KR ao ad u v o od) 10 (lvL b (K 0) (KR 0) ao ad i) [] 799 := by
  obtain ⟨x1, e1⟩ : ∃ z : Int32, xs (i + 1) = z := ⟨_, rfl⟩
  obtain ⟨x2, e2⟩ : ∃ z : Int32, xs (i + 2) = z := ⟨_, rfl⟩
  obtain ⟨x3, e3⟩ : ∃ z : Int32, xs (i + 3) = z := ⟨_, rfl⟩
  refine zz_aload_n 799 Z.1.1 1 dL_law_799 rfl ?_
  refine zz_aload_n 800 Z.1.1 0 dL_law_800 rfl ?_
  refine zz_iload 801 Z.1.1 5 dL_law_801 rfl ?_
  refine zz_iconst 803 Z.1.1 (v := nI 1) dL_law_803 rfl ?_
  refine zz_iadd 804 Z.1.1 (v := nI (i + 1)) dL_law_804 (nI_add i 1) ?_
  refine lw_sld 805 Z (j := i + 1) (by omega) e1 dL_law_805 ?_
  refine zz_aload_n 806 Z.1.1 0 dL_law_806 rfl ?_
  refine zz_iload 807 Z.1.1 5 dL_law_807 rfl ?_
  refine zz_iconst 809 Z.1.1 (v := nI 2) dL_law_809 rfl ?_
  refine zz_iadd 810 Z.1.1 (v := nI (i + 2)) dL_law_810 (nI_add i 2) ?_
  refine lw_sld 811 Z (j := i + 2) (by omega) e2 dL_law_811 ?_
  refine zz_aload_n 812 Z.1.1 0 dL_law_812 rfl ?_
  refine zz_iload 813 Z.1.1 5 dL_law_813 rfl ?_
  refine zz_iconst 815 Z.1.1 (v := nI 3) dL_law_815 rfl ?_
  refine zz_iadd 816 Z.1.1 (v := nI (i + 3)) dL_law_816 (nI_add i 3) ?_
  refine lw_sld 817 Z (j := i + 3) (by omega) e3 dL_law_817 ?_
  refine zz_aload_n 818 Z.1.1 3 dL_law_818 rfl ?_
  obtain ⟨kc, rb, o', CU, RV, postR, hW, hR, hp, hq, hk, hv⟩ := pr_addRange l Z.2.2.1 D C cD K KR adK adV ao Z.2.2.2.2.2.1.1.1 Z.2.2.2.2.2.1.1.2 Z.2.2.2.2.2.1.aoD u v o hI x1 x2 x3
  refine lw_callW 819 Z (na := 5) (As := [.int x1, .int x2, .int x3]) hW gL_law_L_addRange rfl ⟨rfl, rfl⟩ (by decide +kernel) ⟨Nat.le_of_ble_eq_true rfl, Nat.le_of_ble_eq_true rfl⟩ rfl rfl (Nat.le_of_ble_eq_true rfl) hcs dL_law_819 ?_
  rintro r ⟨q1, q2⟩ ⟨er, eo, hC⟩
  replace eo : q2 = o' := eo
  replace hC : CU q1 := hC
  rw [er]
  refine zz_world (P' := (PL D C cD K KR ao ad q1 v q2 od)) (fun _ h => h) ?_
  refine zz_istore 822 Z.1.1 (lv' := [(6, .int (nI kc)), (0, .ref b), (1, .ref (K 0)), (2, .ref (KR 0)), (3, .ref ao), (4, .ref ad), (5, .int (nI i))]) dL_law_822 (by decide) rfl ?_
  refine zz_aload_n 824 Z.1.1 3 dL_law_824 rfl ?_
  refine zz_aload_n 825 Z.1.1 1 dL_law_825 rfl ?_
  refine zz_iload 826 Z.1.1 6 dL_law_826 rfl ?_
  refine zz_iconst 828 Z.1.1 (v := nI 1) dL_law_828 rfl ?_
  refine zz_iadd 829 Z.1.1 (v := nI (i + 1)) dL_law_829 (nI_add i 1) ?_
  refine lw_sld 830 Z (j := i + 1) (by omega) e1 dL_law_830 ?_
  refine zz_aload_n 831 Z.1.1 1 dL_law_831 rfl ?_
  refine zz_iload 832 Z.1.1 6 dL_law_832 rfl ?_
  refine zz_iconst 834 Z.1.1 (v := nI 2) dL_law_834 rfl ?_
  refine zz_iadd 835 Z.1.1 (v := nI (i + 2)) dL_law_835 (nI_add i 2) ?_
  refine lw_sld 836 Z (j := i + 2) (by omega) e2 dL_law_836 ?_
  refine zz_aload_n 837 Z.1.1 1 dL_law_837 rfl ?_
  refine zz_iload 838 Z.1.1 6 dL_law_838 rfl ?_
  refine zz_iconst 840 Z.1.1 (v := nI 3) dL_law_840 rfl ?_
  refine zz_iadd 841 Z.1.1 (v := nI (i + 3)) dL_law_841 (nI_add i 3) ?_
  refine lw_sld 842 Z (j := i + 3) (by omega) e3 dL_law_842 ?_
  refine lw_callRi 843 Z (As := [.int x1, .int x2, .int x3]) hR gL_law_X7_addRange rfl ⟨rfl, rfl⟩ yd_X7_addRange ⟨Nat.le_of_ble_eq_true rfl, Nat.le_of_ble_eq_true rfl⟩ rfl rfl (Nat.le_of_ble_eq_true rfl) hcs dL_law_843 ?_
  intro r2 w hw2
  obtain ⟨er2, hV⟩ := hp r2 w hw2
  rw [er2]
  have hIN := hq q1 w hC hV
  refine zz_istore 846 Z.1.1 (lv' := [(7, .int rb), (6, .int (nI kc)), (0, .ref b), (1, .ref (K 0)), (2, .ref (KR 0)), (3, .ref ao), (4, .ref ad), (5, .int (nI i))]) dL_law_846 (by decide) rfl ?_
  refine zz_aload_n 848 Z.1.1 4 dL_law_848 rfl ?_
  refine lw_callRi 849 Z (As := []) (kt_X7_thrown l D C KR Z.2.2.2.2.2.1.1.2 w.1 w.2.1 w.2.2.1 w.2.2.2 kc hIN.1) gL_law_X7_thrown rfl ⟨rfl, rfl⟩ yd_X7_thrown ⟨Nat.le_of_ble_eq_true rfl, Nat.le_of_ble_eq_true rfl⟩ rfl rfl (Nat.le_of_ble_eq_true rfl) hcs dL_law_849 ?_
  rintro r3 w3 ⟨er3, ew3⟩
  subst ew3
  rw [er3]
  refine zz_world (P' := (PL D C cD K KR ao ad q1 w q2 od)) (fun _ h => h) ?_
  refine zz_iload 852 Z.1.1 1 dL_law_852 rfl ?_
  refine zz_icmp_eq 854 859 Z.1.1 (nI_toInt (by omega)) (nI_toInt (by omega)) dL_law_854 (by decide) (fun h => ?_) (fun h => ?_)
  · skip
    refine zz_iload 859 Z.1.1 1 dL_law_859 rfl ?_
    refine zz_if_ne 861 876 Z.1.1 (nI_toInt (by omega)) dL_law_861 (by decide) (fun h0 => ?_) (fun h0 => ?_)
    · skip
      refine zz_goto 876 3988 Z.1.1 dL_law_876 (by decide) ?_
      refine zz_lvs [2, 3, 4, 5, 6, 7] rfl ?_
      exact kk q1 w q2 od _ _ hIN.2 (by omega) (by omega)
    · skip
      have hv0 := hv (by omega)
      rw [← eo] at hv0
      refine zz_aload_n 864 Z.1.1 5 dL_law_864 rfl ?_
      refine zz_iconst 865 Z.1.1 (v := nI 0) dL_law_865 rfl ?_
      refine lw_lld 866 Z dL_law_866 ?_
      refine zz_iload 867 Z.1.1 0 dL_law_867 rfl ?_
      refine zz_i2l 869 Z.1.1 dL_law_869 rfl ?_
      refine zz_lcmp 870 Z.1.1 dL_law_870 ?_
      refine zz_ifL_eq 871 876 Z.1.1 dL_law_871 (by decide) (fun h => ?_) (fun h => ?_)
      · skip
        refine zz_goto 876 3988 Z.1.1 dL_law_876 (by decide) ?_
        refine zz_lvs [2, 3, 4, 5, 6, 7] rfl ?_
        exact kk q1 w q2 od _ _ hIN.2 (by omega) (by omega)
      · exact absurd (hv0) h
  · exact absurd rfl h

set_option maxHeartbeats 8000000 in
set_option maxRecDepth 100000 in
theorem cs_removeRange {p : Program} {l : Launch} {e : Env} {s : State} {m : MethodId} {args : Array Value} {below : List Frame} {meth : Method} {c : Code} {Q : State → Prop} {D : va_G} {C : Nat → ClassId} {cD : ClassId} {K KR : Nat → Nat} {A : Nat → Prop} {adK adV : Nat → Nat} {ao ad b L : Nat} {xs : Nat → Int32} {u : CSt} {v : MSt} {o : Int64} {od : UInt64} {cells slots i : Nat} (Z : LCx p l s m args c meth A D C cD K KR adK adV ao ad b L xs) (hI : INV u v) (hi : i + 8 ≤ L) (hcs : cells + 1 ≤ room_1.cells ∧ slots + 6 ≤ room_1.slots) (kk : NXT p l e s m args below meth c Q A D C cD K KR ao ad b i cells slots) : ZZ p l e room_1 s m args below meth c cells slots Q A (PL D C cD K KR ao ad u v o od) 10 (lvL b (K 0) (KR 0) ao ad i) [] 879 := by
  obtain ⟨x1, e1⟩ : ∃ z : Int32, xs (i + 1) = z := ⟨_, rfl⟩
  obtain ⟨x2, e2⟩ : ∃ z : Int32, xs (i + 2) = z := ⟨_, rfl⟩
  obtain ⟨x3, e3⟩ : ∃ z : Int32, xs (i + 3) = z := ⟨_, rfl⟩
  refine zz_aload_n 879 Z.1.1 1 dL_law_879 rfl ?_
  refine zz_aload_n 880 Z.1.1 0 dL_law_880 rfl ?_
  refine zz_iload 881 Z.1.1 5 dL_law_881 rfl ?_
  refine zz_iconst 883 Z.1.1 (v := nI 1) dL_law_883 rfl ?_
  refine zz_iadd 884 Z.1.1 (v := nI (i + 1)) dL_law_884 (nI_add i 1) ?_
  refine lw_sld 885 Z (j := i + 1) (by omega) e1 dL_law_885 ?_
  refine zz_aload_n 886 Z.1.1 0 dL_law_886 rfl ?_
  refine zz_iload 887 Z.1.1 5 dL_law_887 rfl ?_
  refine zz_iconst 889 Z.1.1 (v := nI 2) dL_law_889 rfl ?_
  refine zz_iadd 890 Z.1.1 (v := nI (i + 2)) dL_law_890 (nI_add i 2) ?_
  refine lw_sld 891 Z (j := i + 2) (by omega) e2 dL_law_891 ?_
  refine zz_aload_n 892 Z.1.1 0 dL_law_892 rfl ?_
  refine zz_iload 893 Z.1.1 5 dL_law_893 rfl ?_
  refine zz_iconst 895 Z.1.1 (v := nI 3) dL_law_895 rfl ?_
  refine zz_iadd 896 Z.1.1 (v := nI (i + 3)) dL_law_896 (nI_add i 3) ?_
  refine lw_sld 897 Z (j := i + 3) (by omega) e3 dL_law_897 ?_
  refine zz_aload_n 898 Z.1.1 3 dL_law_898 rfl ?_
  obtain ⟨kc, rb, o', CU, RV, postR, hW, hR, hp, hq, hk, hv⟩ := pr_removeRange l Z.2.2.1 D C cD K KR adK adV ao Z.2.2.2.2.2.1.1.1 Z.2.2.2.2.2.1.1.2 Z.2.2.2.2.2.1.aoD u v o hI x1 x2 x3
  refine lw_callW 899 Z (na := 5) (As := [.int x1, .int x2, .int x3]) hW gL_law_L_removeRange rfl ⟨rfl, rfl⟩ (by decide +kernel) ⟨Nat.le_of_ble_eq_true rfl, Nat.le_of_ble_eq_true rfl⟩ rfl rfl (Nat.le_of_ble_eq_true rfl) hcs dL_law_899 ?_
  rintro r ⟨q1, q2⟩ ⟨er, eo, hC⟩
  replace eo : q2 = o' := eo
  replace hC : CU q1 := hC
  rw [er]
  refine zz_world (P' := (PL D C cD K KR ao ad q1 v q2 od)) (fun _ h => h) ?_
  refine zz_istore 902 Z.1.1 (lv' := [(6, .int (nI kc)), (0, .ref b), (1, .ref (K 0)), (2, .ref (KR 0)), (3, .ref ao), (4, .ref ad), (5, .int (nI i))]) dL_law_902 (by decide) rfl ?_
  refine zz_aload_n 904 Z.1.1 3 dL_law_904 rfl ?_
  refine zz_aload_n 905 Z.1.1 1 dL_law_905 rfl ?_
  refine zz_iload 906 Z.1.1 6 dL_law_906 rfl ?_
  refine zz_iconst 908 Z.1.1 (v := nI 1) dL_law_908 rfl ?_
  refine zz_iadd 909 Z.1.1 (v := nI (i + 1)) dL_law_909 (nI_add i 1) ?_
  refine lw_sld 910 Z (j := i + 1) (by omega) e1 dL_law_910 ?_
  refine zz_aload_n 911 Z.1.1 1 dL_law_911 rfl ?_
  refine zz_iload 912 Z.1.1 6 dL_law_912 rfl ?_
  refine zz_iconst 914 Z.1.1 (v := nI 2) dL_law_914 rfl ?_
  refine zz_iadd 915 Z.1.1 (v := nI (i + 2)) dL_law_915 (nI_add i 2) ?_
  refine lw_sld 916 Z (j := i + 2) (by omega) e2 dL_law_916 ?_
  refine zz_aload_n 917 Z.1.1 1 dL_law_917 rfl ?_
  refine zz_iload 918 Z.1.1 6 dL_law_918 rfl ?_
  refine zz_iconst 920 Z.1.1 (v := nI 3) dL_law_920 rfl ?_
  refine zz_iadd 921 Z.1.1 (v := nI (i + 3)) dL_law_921 (nI_add i 3) ?_
  refine lw_sld 922 Z (j := i + 3) (by omega) e3 dL_law_922 ?_
  refine lw_callRi 923 Z (As := [.int x1, .int x2, .int x3]) hR gL_law_X7_removeRange rfl ⟨rfl, rfl⟩ yd_X7_removeRange ⟨Nat.le_of_ble_eq_true rfl, Nat.le_of_ble_eq_true rfl⟩ rfl rfl (Nat.le_of_ble_eq_true rfl) hcs dL_law_923 ?_
  intro r2 w hw2
  obtain ⟨er2, hV⟩ := hp r2 w hw2
  rw [er2]
  have hIN := hq q1 w hC hV
  refine zz_istore 926 Z.1.1 (lv' := [(7, .int rb), (6, .int (nI kc)), (0, .ref b), (1, .ref (K 0)), (2, .ref (KR 0)), (3, .ref ao), (4, .ref ad), (5, .int (nI i))]) dL_law_926 (by decide) rfl ?_
  refine zz_aload_n 928 Z.1.1 4 dL_law_928 rfl ?_
  refine lw_callRi 929 Z (As := []) (kt_X7_thrown l D C KR Z.2.2.2.2.2.1.1.2 w.1 w.2.1 w.2.2.1 w.2.2.2 kc hIN.1) gL_law_X7_thrown rfl ⟨rfl, rfl⟩ yd_X7_thrown ⟨Nat.le_of_ble_eq_true rfl, Nat.le_of_ble_eq_true rfl⟩ rfl rfl (Nat.le_of_ble_eq_true rfl) hcs dL_law_929 ?_
  rintro r3 w3 ⟨er3, ew3⟩
  subst ew3
  rw [er3]
  refine zz_world (P' := (PL D C cD K KR ao ad q1 w q2 od)) (fun _ h => h) ?_
  refine zz_iload 932 Z.1.1 1 dL_law_932 rfl ?_
  refine zz_icmp_eq 934 939 Z.1.1 (nI_toInt (by omega)) (nI_toInt (by omega)) dL_law_934 (by decide) (fun h => ?_) (fun h => ?_)
  · skip
    refine zz_iload 939 Z.1.1 1 dL_law_939 rfl ?_
    refine zz_if_ne 941 956 Z.1.1 (nI_toInt (by omega)) dL_law_941 (by decide) (fun h0 => ?_) (fun h0 => ?_)
    · skip
      refine zz_goto 956 3988 Z.1.1 dL_law_956 (by decide) ?_
      refine zz_lvs [2, 3, 4, 5, 6, 7] rfl ?_
      exact kk q1 w q2 od _ _ hIN.2 (by omega) (by omega)
    · skip
      have hv0 := hv (by omega)
      rw [← eo] at hv0
      refine zz_aload_n 944 Z.1.1 5 dL_law_944 rfl ?_
      refine zz_iconst 945 Z.1.1 (v := nI 0) dL_law_945 rfl ?_
      refine lw_lld 946 Z dL_law_946 ?_
      refine zz_iload 947 Z.1.1 0 dL_law_947 rfl ?_
      refine zz_i2l 949 Z.1.1 dL_law_949 rfl ?_
      refine zz_lcmp 950 Z.1.1 dL_law_950 ?_
      refine zz_ifL_eq 951 956 Z.1.1 dL_law_951 (by decide) (fun h => ?_) (fun h => ?_)
      · skip
        refine zz_goto 956 3988 Z.1.1 dL_law_956 (by decide) ?_
        refine zz_lvs [2, 3, 4, 5, 6, 7] rfl ?_
        exact kk q1 w q2 od _ _ hIN.2 (by omega) (by omega)
      · exact absurd (hv0) h
  · exact absurd rfl h

set_option maxHeartbeats 8000000 in
set_option maxRecDepth 100000 in
theorem cs_putRange {p : Program} {l : Launch} {e : Env} {s : State} {m : MethodId} {args : Array Value} {below : List Frame} {meth : Method} {c : Code} {Q : State → Prop} {D : va_G} {C : Nat → ClassId} {cD : ClassId} {K KR : Nat → Nat} {A : Nat → Prop} {adK adV : Nat → Nat} {ao ad b L : Nat} {xs : Nat → Int32} {u : CSt} {v : MSt} {o : Int64} {od : UInt64} {cells slots i : Nat} (Z : LCx p l s m args c meth A D C cD K KR adK adV ao ad b L xs) (hI : INV u v) (hi : i + 8 ≤ L) (hcs : cells + 1 ≤ room_1.cells ∧ slots + 6 ≤ room_1.slots) (kk : NXT p l e s m args below meth c Q A D C cD K KR ao ad b i cells slots) : ZZ p l e room_1 s m args below meth c cells slots Q A (PL D C cD K KR ao ad u v o od) 10 (lvL b (K 0) (KR 0) ao ad i) [] 959 := by
  obtain ⟨x1, e1⟩ : ∃ z : Int32, xs (i + 1) = z := ⟨_, rfl⟩
  obtain ⟨x2, e2⟩ : ∃ z : Int32, xs (i + 2) = z := ⟨_, rfl⟩
  obtain ⟨x3, e3⟩ : ∃ z : Int32, xs (i + 3) = z := ⟨_, rfl⟩
  obtain ⟨x4, e4⟩ : ∃ z : Int32, xs (i + 4) = z := ⟨_, rfl⟩
  refine zz_aload_n 959 Z.1.1 1 dL_law_959 rfl ?_
  refine zz_aload_n 960 Z.1.1 0 dL_law_960 rfl ?_
  refine zz_iload 961 Z.1.1 5 dL_law_961 rfl ?_
  refine zz_iconst 963 Z.1.1 (v := nI 1) dL_law_963 rfl ?_
  refine zz_iadd 964 Z.1.1 (v := nI (i + 1)) dL_law_964 (nI_add i 1) ?_
  refine lw_sld 965 Z (j := i + 1) (by omega) e1 dL_law_965 ?_
  refine zz_aload_n 966 Z.1.1 0 dL_law_966 rfl ?_
  refine zz_iload 967 Z.1.1 5 dL_law_967 rfl ?_
  refine zz_iconst 969 Z.1.1 (v := nI 2) dL_law_969 rfl ?_
  refine zz_iadd 970 Z.1.1 (v := nI (i + 2)) dL_law_970 (nI_add i 2) ?_
  refine lw_sld 971 Z (j := i + 2) (by omega) e2 dL_law_971 ?_
  refine zz_aload_n 972 Z.1.1 0 dL_law_972 rfl ?_
  refine zz_iload 973 Z.1.1 5 dL_law_973 rfl ?_
  refine zz_iconst 975 Z.1.1 (v := nI 3) dL_law_975 rfl ?_
  refine zz_iadd 976 Z.1.1 (v := nI (i + 3)) dL_law_976 (nI_add i 3) ?_
  refine lw_sld 977 Z (j := i + 3) (by omega) e3 dL_law_977 ?_
  refine zz_aload_n 978 Z.1.1 0 dL_law_978 rfl ?_
  refine zz_iload 979 Z.1.1 5 dL_law_979 rfl ?_
  refine zz_iconst 981 Z.1.1 (v := nI 4) dL_law_981 rfl ?_
  refine zz_iadd 982 Z.1.1 (v := nI (i + 4)) dL_law_982 (nI_add i 4) ?_
  refine lw_sld 983 Z (j := i + 4) (by omega) e4 dL_law_983 ?_
  refine zz_if_eq 984 991 Z.1.1 rfl dL_law_984 (by decide) (fun hb => ?_) (fun hb => ?_)
  · skip
    refine zz_iconst 991 Z.1.1 (v := nI 0) dL_law_991 rfl ?_
    refine zz_topi (bI false) rfl ?_
    refine zz_aload_n 992 Z.1.1 3 dL_law_992 rfl ?_
    obtain ⟨kc, rb, o', CU, RV, postR, hW, hR, hp, hq, hk, hv⟩ := pr_putRange l Z.2.2.1 D C cD K KR adK adV ao Z.2.2.2.2.2.1.1.1 Z.2.2.2.2.2.1.1.2 Z.2.2.2.2.2.1.aoD u v o hI x1 x2 x3 false
    refine lw_callW 993 Z (na := 6) (As := [.int x1, .int x2, .int x3, .int (bI false)]) hW gL_law_L_putRange rfl ⟨rfl, rfl⟩ (by decide +kernel) ⟨Nat.le_of_ble_eq_true rfl, Nat.le_of_ble_eq_true rfl⟩ rfl rfl (Nat.le_of_ble_eq_true rfl) hcs dL_law_993 ?_
    rintro r ⟨q1, q2⟩ ⟨er, eo, hC⟩
    replace eo : q2 = o' := eo
    replace hC : CU q1 := hC
    rw [er]
    refine zz_world (P' := (PL D C cD K KR ao ad q1 v q2 od)) (fun _ h => h) ?_
    refine zz_istore 996 Z.1.1 (lv' := [(6, .int (nI kc)), (0, .ref b), (1, .ref (K 0)), (2, .ref (KR 0)), (3, .ref ao), (4, .ref ad), (5, .int (nI i))]) dL_law_996 (by decide) rfl ?_
    refine zz_aload_n 998 Z.1.1 3 dL_law_998 rfl ?_
    refine zz_aload_n 999 Z.1.1 1 dL_law_999 rfl ?_
    refine zz_iload 1000 Z.1.1 6 dL_law_1000 rfl ?_
    refine zz_iconst 1002 Z.1.1 (v := nI 1) dL_law_1002 rfl ?_
    refine zz_iadd 1003 Z.1.1 (v := nI (i + 1)) dL_law_1003 (nI_add i 1) ?_
    refine lw_sld 1004 Z (j := i + 1) (by omega) e1 dL_law_1004 ?_
    refine zz_aload_n 1005 Z.1.1 1 dL_law_1005 rfl ?_
    refine zz_iload 1006 Z.1.1 6 dL_law_1006 rfl ?_
    refine zz_iconst 1008 Z.1.1 (v := nI 2) dL_law_1008 rfl ?_
    refine zz_iadd 1009 Z.1.1 (v := nI (i + 2)) dL_law_1009 (nI_add i 2) ?_
    refine lw_sld 1010 Z (j := i + 2) (by omega) e2 dL_law_1010 ?_
    refine zz_aload_n 1011 Z.1.1 1 dL_law_1011 rfl ?_
    refine zz_iload 1012 Z.1.1 6 dL_law_1012 rfl ?_
    refine zz_iconst 1014 Z.1.1 (v := nI 3) dL_law_1014 rfl ?_
    refine zz_iadd 1015 Z.1.1 (v := nI (i + 3)) dL_law_1015 (nI_add i 3) ?_
    refine lw_sld 1016 Z (j := i + 3) (by omega) e3 dL_law_1016 ?_
    refine zz_aload_n 1017 Z.1.1 1 dL_law_1017 rfl ?_
    refine zz_iload 1018 Z.1.1 6 dL_law_1018 rfl ?_
    refine zz_iconst 1020 Z.1.1 (v := nI 4) dL_law_1020 rfl ?_
    refine zz_iadd 1021 Z.1.1 (v := nI (i + 4)) dL_law_1021 (nI_add i 4) ?_
    refine lw_sld 1022 Z (j := i + 4) (by omega) e4 dL_law_1022 ?_
    refine zz_if_eq 1023 1030 Z.1.1 rfl dL_law_1023 (by decide) (fun h => ?_) (fun h => ?_)
    · skip
      refine zz_iconst 1030 Z.1.1 (v := nI 0) dL_law_1030 rfl ?_
      refine zz_topi (bI false) rfl ?_
      refine lw_callRi 1031 Z (As := [.int x1, .int x2, .int x3, .int (bI false)]) hR gL_law_X7_putRange rfl ⟨rfl, rfl⟩ yd_X7_putRange ⟨Nat.le_of_ble_eq_true rfl, Nat.le_of_ble_eq_true rfl⟩ rfl rfl (Nat.le_of_ble_eq_true rfl) hcs dL_law_1031 ?_
      intro r2 w hw2
      obtain ⟨er2, hV⟩ := hp r2 w hw2
      rw [er2]
      have hIN := hq q1 w hC hV
      refine zz_istore 1034 Z.1.1 (lv' := [(7, .int rb), (6, .int (nI kc)), (0, .ref b), (1, .ref (K 0)), (2, .ref (KR 0)), (3, .ref ao), (4, .ref ad), (5, .int (nI i))]) dL_law_1034 (by decide) rfl ?_
      refine zz_aload_n 1036 Z.1.1 4 dL_law_1036 rfl ?_
      refine lw_callRi 1037 Z (As := []) (kt_X7_thrown l D C KR Z.2.2.2.2.2.1.1.2 w.1 w.2.1 w.2.2.1 w.2.2.2 kc hIN.1) gL_law_X7_thrown rfl ⟨rfl, rfl⟩ yd_X7_thrown ⟨Nat.le_of_ble_eq_true rfl, Nat.le_of_ble_eq_true rfl⟩ rfl rfl (Nat.le_of_ble_eq_true rfl) hcs dL_law_1037 ?_
      rintro r3 w3 ⟨er3, ew3⟩
      subst ew3
      rw [er3]
      refine zz_world (P' := (PL D C cD K KR ao ad q1 w q2 od)) (fun _ h => h) ?_
      refine zz_iload 1040 Z.1.1 1 dL_law_1040 rfl ?_
      refine zz_icmp_eq 1042 1047 Z.1.1 (nI_toInt (by omega)) (nI_toInt (by omega)) dL_law_1042 (by decide) (fun h => ?_) (fun h => ?_)
      · skip
        refine zz_iload 1047 Z.1.1 1 dL_law_1047 rfl ?_
        refine zz_if_ne 1049 1064 Z.1.1 (nI_toInt (by omega)) dL_law_1049 (by decide) (fun h0 => ?_) (fun h0 => ?_)
        · skip
          refine zz_goto 1064 3988 Z.1.1 dL_law_1064 (by decide) ?_
          refine zz_lvs [2, 3, 4, 5, 6, 7] rfl ?_
          exact kk q1 w q2 od _ _ hIN.2 (by omega) (by omega)
        · skip
          have hv0 := hv (by omega)
          rw [← eo] at hv0
          refine zz_aload_n 1052 Z.1.1 5 dL_law_1052 rfl ?_
          refine zz_iconst 1053 Z.1.1 (v := nI 0) dL_law_1053 rfl ?_
          refine lw_lld 1054 Z dL_law_1054 ?_
          refine zz_iload 1055 Z.1.1 0 dL_law_1055 rfl ?_
          refine zz_i2l 1057 Z.1.1 dL_law_1057 rfl ?_
          refine zz_lcmp 1058 Z.1.1 dL_law_1058 ?_
          refine zz_ifL_eq 1059 1064 Z.1.1 dL_law_1059 (by decide) (fun h => ?_) (fun h => ?_)
          · skip
            refine zz_goto 1064 3988 Z.1.1 dL_law_1064 (by decide) ?_
            refine zz_lvs [2, 3, 4, 5, 6, 7] rfl ?_
            exact kk q1 w q2 od _ _ hIN.2 (by omega) (by omega)
          · exact absurd (hv0) h
      · exact absurd rfl h
    · exact absurd hb h
  · skip
    refine zz_iconst 987 Z.1.1 (v := nI 1) dL_law_987 rfl ?_
    refine zz_topi (bI true) rfl ?_
    refine zz_goto 988 992 Z.1.1 dL_law_988 (by decide) ?_
    refine zz_aload_n 992 Z.1.1 3 dL_law_992 rfl ?_
    obtain ⟨kc, rb, o', CU, RV, postR, hW, hR, hp, hq, hk, hv⟩ := pr_putRange l Z.2.2.1 D C cD K KR adK adV ao Z.2.2.2.2.2.1.1.1 Z.2.2.2.2.2.1.1.2 Z.2.2.2.2.2.1.aoD u v o hI x1 x2 x3 true
    refine lw_callW 993 Z (na := 6) (As := [.int x1, .int x2, .int x3, .int (bI true)]) hW gL_law_L_putRange rfl ⟨rfl, rfl⟩ (by decide +kernel) ⟨Nat.le_of_ble_eq_true rfl, Nat.le_of_ble_eq_true rfl⟩ rfl rfl (Nat.le_of_ble_eq_true rfl) hcs dL_law_993 ?_
    rintro r ⟨q1, q2⟩ ⟨er, eo, hC⟩
    replace eo : q2 = o' := eo
    replace hC : CU q1 := hC
    rw [er]
    refine zz_world (P' := (PL D C cD K KR ao ad q1 v q2 od)) (fun _ h => h) ?_
    refine zz_istore 996 Z.1.1 (lv' := [(6, .int (nI kc)), (0, .ref b), (1, .ref (K 0)), (2, .ref (KR 0)), (3, .ref ao), (4, .ref ad), (5, .int (nI i))]) dL_law_996 (by decide) rfl ?_
    refine zz_aload_n 998 Z.1.1 3 dL_law_998 rfl ?_
    refine zz_aload_n 999 Z.1.1 1 dL_law_999 rfl ?_
    refine zz_iload 1000 Z.1.1 6 dL_law_1000 rfl ?_
    refine zz_iconst 1002 Z.1.1 (v := nI 1) dL_law_1002 rfl ?_
    refine zz_iadd 1003 Z.1.1 (v := nI (i + 1)) dL_law_1003 (nI_add i 1) ?_
    refine lw_sld 1004 Z (j := i + 1) (by omega) e1 dL_law_1004 ?_
    refine zz_aload_n 1005 Z.1.1 1 dL_law_1005 rfl ?_
    refine zz_iload 1006 Z.1.1 6 dL_law_1006 rfl ?_
    refine zz_iconst 1008 Z.1.1 (v := nI 2) dL_law_1008 rfl ?_
    refine zz_iadd 1009 Z.1.1 (v := nI (i + 2)) dL_law_1009 (nI_add i 2) ?_
    refine lw_sld 1010 Z (j := i + 2) (by omega) e2 dL_law_1010 ?_
    refine zz_aload_n 1011 Z.1.1 1 dL_law_1011 rfl ?_
    refine zz_iload 1012 Z.1.1 6 dL_law_1012 rfl ?_
    refine zz_iconst 1014 Z.1.1 (v := nI 3) dL_law_1014 rfl ?_
    refine zz_iadd 1015 Z.1.1 (v := nI (i + 3)) dL_law_1015 (nI_add i 3) ?_
    refine lw_sld 1016 Z (j := i + 3) (by omega) e3 dL_law_1016 ?_
    refine zz_aload_n 1017 Z.1.1 1 dL_law_1017 rfl ?_
    refine zz_iload 1018 Z.1.1 6 dL_law_1018 rfl ?_
    refine zz_iconst 1020 Z.1.1 (v := nI 4) dL_law_1020 rfl ?_
    refine zz_iadd 1021 Z.1.1 (v := nI (i + 4)) dL_law_1021 (nI_add i 4) ?_
    refine lw_sld 1022 Z (j := i + 4) (by omega) e4 dL_law_1022 ?_
    refine zz_if_eq 1023 1030 Z.1.1 rfl dL_law_1023 (by decide) (fun h => ?_) (fun h => ?_)
    · exact absurd h hb
    · skip
      refine zz_iconst 1026 Z.1.1 (v := nI 1) dL_law_1026 rfl ?_
      refine zz_topi (bI true) rfl ?_
      refine zz_goto 1027 1031 Z.1.1 dL_law_1027 (by decide) ?_
      refine lw_callRi 1031 Z (As := [.int x1, .int x2, .int x3, .int (bI true)]) hR gL_law_X7_putRange rfl ⟨rfl, rfl⟩ yd_X7_putRange ⟨Nat.le_of_ble_eq_true rfl, Nat.le_of_ble_eq_true rfl⟩ rfl rfl (Nat.le_of_ble_eq_true rfl) hcs dL_law_1031 ?_
      intro r2 w hw2
      obtain ⟨er2, hV⟩ := hp r2 w hw2
      rw [er2]
      have hIN := hq q1 w hC hV
      refine zz_istore 1034 Z.1.1 (lv' := [(7, .int rb), (6, .int (nI kc)), (0, .ref b), (1, .ref (K 0)), (2, .ref (KR 0)), (3, .ref ao), (4, .ref ad), (5, .int (nI i))]) dL_law_1034 (by decide) rfl ?_
      refine zz_aload_n 1036 Z.1.1 4 dL_law_1036 rfl ?_
      refine lw_callRi 1037 Z (As := []) (kt_X7_thrown l D C KR Z.2.2.2.2.2.1.1.2 w.1 w.2.1 w.2.2.1 w.2.2.2 kc hIN.1) gL_law_X7_thrown rfl ⟨rfl, rfl⟩ yd_X7_thrown ⟨Nat.le_of_ble_eq_true rfl, Nat.le_of_ble_eq_true rfl⟩ rfl rfl (Nat.le_of_ble_eq_true rfl) hcs dL_law_1037 ?_
      rintro r3 w3 ⟨er3, ew3⟩
      subst ew3
      rw [er3]
      refine zz_world (P' := (PL D C cD K KR ao ad q1 w q2 od)) (fun _ h => h) ?_
      refine zz_iload 1040 Z.1.1 1 dL_law_1040 rfl ?_
      refine zz_icmp_eq 1042 1047 Z.1.1 (nI_toInt (by omega)) (nI_toInt (by omega)) dL_law_1042 (by decide) (fun h => ?_) (fun h => ?_)
      · skip
        refine zz_iload 1047 Z.1.1 1 dL_law_1047 rfl ?_
        refine zz_if_ne 1049 1064 Z.1.1 (nI_toInt (by omega)) dL_law_1049 (by decide) (fun h0 => ?_) (fun h0 => ?_)
        · skip
          refine zz_goto 1064 3988 Z.1.1 dL_law_1064 (by decide) ?_
          refine zz_lvs [2, 3, 4, 5, 6, 7] rfl ?_
          exact kk q1 w q2 od _ _ hIN.2 (by omega) (by omega)
        · skip
          have hv0 := hv (by omega)
          rw [← eo] at hv0
          refine zz_aload_n 1052 Z.1.1 5 dL_law_1052 rfl ?_
          refine zz_iconst 1053 Z.1.1 (v := nI 0) dL_law_1053 rfl ?_
          refine lw_lld 1054 Z dL_law_1054 ?_
          refine zz_iload 1055 Z.1.1 0 dL_law_1055 rfl ?_
          refine zz_i2l 1057 Z.1.1 dL_law_1057 rfl ?_
          refine zz_lcmp 1058 Z.1.1 dL_law_1058 ?_
          refine zz_ifL_eq 1059 1064 Z.1.1 dL_law_1059 (by decide) (fun h => ?_) (fun h => ?_)
          · skip
            refine zz_goto 1064 3988 Z.1.1 dL_law_1064 (by decide) ?_
            refine zz_lvs [2, 3, 4, 5, 6, 7] rfl ?_
            exact kk q1 w q2 od _ _ hIN.2 (by omega) (by omega)
          · exact absurd (hv0) h
      · exact absurd rfl h

set_option maxHeartbeats 8000000 in
set_option maxRecDepth 100000 in
theorem cs_flipRange {p : Program} {l : Launch} {e : Env} {s : State} {m : MethodId} {args : Array Value} {below : List Frame} {meth : Method} {c : Code} {Q : State → Prop} {D : va_G} {C : Nat → ClassId} {cD : ClassId} {K KR : Nat → Nat} {A : Nat → Prop} {adK adV : Nat → Nat} {ao ad b L : Nat} {xs : Nat → Int32} {u : CSt} {v : MSt} {o : Int64} {od : UInt64} {cells slots i : Nat} (Z : LCx p l s m args c meth A D C cD K KR adK adV ao ad b L xs) (hI : INV u v) (hi : i + 8 ≤ L) (hcs : cells + 1 ≤ room_1.cells ∧ slots + 6 ≤ room_1.slots) (kk : NXT p l e s m args below meth c Q A D C cD K KR ao ad b i cells slots) : ZZ p l e room_1 s m args below meth c cells slots Q A (PL D C cD K KR ao ad u v o od) 10 (lvL b (K 0) (KR 0) ao ad i) [] 1067 := by
  obtain ⟨x1, e1⟩ : ∃ z : Int32, xs (i + 1) = z := ⟨_, rfl⟩
  obtain ⟨x2, e2⟩ : ∃ z : Int32, xs (i + 2) = z := ⟨_, rfl⟩
  obtain ⟨x3, e3⟩ : ∃ z : Int32, xs (i + 3) = z := ⟨_, rfl⟩
  refine zz_aload_n 1067 Z.1.1 1 dL_law_1067 rfl ?_
  refine zz_aload_n 1068 Z.1.1 0 dL_law_1068 rfl ?_
  refine zz_iload 1069 Z.1.1 5 dL_law_1069 rfl ?_
  refine zz_iconst 1071 Z.1.1 (v := nI 1) dL_law_1071 rfl ?_
  refine zz_iadd 1072 Z.1.1 (v := nI (i + 1)) dL_law_1072 (nI_add i 1) ?_
  refine lw_sld 1073 Z (j := i + 1) (by omega) e1 dL_law_1073 ?_
  refine zz_aload_n 1074 Z.1.1 0 dL_law_1074 rfl ?_
  refine zz_iload 1075 Z.1.1 5 dL_law_1075 rfl ?_
  refine zz_iconst 1077 Z.1.1 (v := nI 2) dL_law_1077 rfl ?_
  refine zz_iadd 1078 Z.1.1 (v := nI (i + 2)) dL_law_1078 (nI_add i 2) ?_
  refine lw_sld 1079 Z (j := i + 2) (by omega) e2 dL_law_1079 ?_
  refine zz_aload_n 1080 Z.1.1 0 dL_law_1080 rfl ?_
  refine zz_iload 1081 Z.1.1 5 dL_law_1081 rfl ?_
  refine zz_iconst 1083 Z.1.1 (v := nI 3) dL_law_1083 rfl ?_
  refine zz_iadd 1084 Z.1.1 (v := nI (i + 3)) dL_law_1084 (nI_add i 3) ?_
  refine lw_sld 1085 Z (j := i + 3) (by omega) e3 dL_law_1085 ?_
  refine zz_aload_n 1086 Z.1.1 3 dL_law_1086 rfl ?_
  obtain ⟨kc, rb, o', CU, RV, postR, hW, hR, hp, hq, hk, hv⟩ := pr_flipRange l Z.2.2.1 D C cD K KR adK adV ao Z.2.2.2.2.2.1.1.1 Z.2.2.2.2.2.1.1.2 Z.2.2.2.2.2.1.aoD u v o hI x1 x2 x3
  refine lw_callW 1087 Z (na := 5) (As := [.int x1, .int x2, .int x3]) hW gL_law_L_flipRange rfl ⟨rfl, rfl⟩ (by decide +kernel) ⟨Nat.le_of_ble_eq_true rfl, Nat.le_of_ble_eq_true rfl⟩ rfl rfl (Nat.le_of_ble_eq_true rfl) hcs dL_law_1087 ?_
  rintro r ⟨q1, q2⟩ ⟨er, eo, hC⟩
  replace eo : q2 = o' := eo
  replace hC : CU q1 := hC
  rw [er]
  refine zz_world (P' := (PL D C cD K KR ao ad q1 v q2 od)) (fun _ h => h) ?_
  refine zz_istore 1090 Z.1.1 (lv' := [(6, .int (nI kc)), (0, .ref b), (1, .ref (K 0)), (2, .ref (KR 0)), (3, .ref ao), (4, .ref ad), (5, .int (nI i))]) dL_law_1090 (by decide) rfl ?_
  refine zz_aload_n 1092 Z.1.1 3 dL_law_1092 rfl ?_
  refine zz_aload_n 1093 Z.1.1 1 dL_law_1093 rfl ?_
  refine zz_iload 1094 Z.1.1 6 dL_law_1094 rfl ?_
  refine zz_iconst 1096 Z.1.1 (v := nI 1) dL_law_1096 rfl ?_
  refine zz_iadd 1097 Z.1.1 (v := nI (i + 1)) dL_law_1097 (nI_add i 1) ?_
  refine lw_sld 1098 Z (j := i + 1) (by omega) e1 dL_law_1098 ?_
  refine zz_aload_n 1099 Z.1.1 1 dL_law_1099 rfl ?_
  refine zz_iload 1100 Z.1.1 6 dL_law_1100 rfl ?_
  refine zz_iconst 1102 Z.1.1 (v := nI 2) dL_law_1102 rfl ?_
  refine zz_iadd 1103 Z.1.1 (v := nI (i + 2)) dL_law_1103 (nI_add i 2) ?_
  refine lw_sld 1104 Z (j := i + 2) (by omega) e2 dL_law_1104 ?_
  refine zz_aload_n 1105 Z.1.1 1 dL_law_1105 rfl ?_
  refine zz_iload 1106 Z.1.1 6 dL_law_1106 rfl ?_
  refine zz_iconst 1108 Z.1.1 (v := nI 3) dL_law_1108 rfl ?_
  refine zz_iadd 1109 Z.1.1 (v := nI (i + 3)) dL_law_1109 (nI_add i 3) ?_
  refine lw_sld 1110 Z (j := i + 3) (by omega) e3 dL_law_1110 ?_
  refine lw_callRi 1111 Z (As := [.int x1, .int x2, .int x3]) hR gL_law_X7_flipRange rfl ⟨rfl, rfl⟩ yd_X7_flipRange ⟨Nat.le_of_ble_eq_true rfl, Nat.le_of_ble_eq_true rfl⟩ rfl rfl (Nat.le_of_ble_eq_true rfl) hcs dL_law_1111 ?_
  intro r2 w hw2
  obtain ⟨er2, hV⟩ := hp r2 w hw2
  rw [er2]
  have hIN := hq q1 w hC hV
  refine zz_istore 1114 Z.1.1 (lv' := [(7, .int rb), (6, .int (nI kc)), (0, .ref b), (1, .ref (K 0)), (2, .ref (KR 0)), (3, .ref ao), (4, .ref ad), (5, .int (nI i))]) dL_law_1114 (by decide) rfl ?_
  refine zz_aload_n 1116 Z.1.1 4 dL_law_1116 rfl ?_
  refine lw_callRi 1117 Z (As := []) (kt_X7_thrown l D C KR Z.2.2.2.2.2.1.1.2 w.1 w.2.1 w.2.2.1 w.2.2.2 kc hIN.1) gL_law_X7_thrown rfl ⟨rfl, rfl⟩ yd_X7_thrown ⟨Nat.le_of_ble_eq_true rfl, Nat.le_of_ble_eq_true rfl⟩ rfl rfl (Nat.le_of_ble_eq_true rfl) hcs dL_law_1117 ?_
  rintro r3 w3 ⟨er3, ew3⟩
  subst ew3
  rw [er3]
  refine zz_world (P' := (PL D C cD K KR ao ad q1 w q2 od)) (fun _ h => h) ?_
  refine zz_iload 1120 Z.1.1 1 dL_law_1120 rfl ?_
  refine zz_icmp_eq 1122 1127 Z.1.1 (nI_toInt (by omega)) (nI_toInt (by omega)) dL_law_1122 (by decide) (fun h => ?_) (fun h => ?_)
  · skip
    refine zz_iload 1127 Z.1.1 1 dL_law_1127 rfl ?_
    refine zz_if_ne 1129 1144 Z.1.1 (nI_toInt (by omega)) dL_law_1129 (by decide) (fun h0 => ?_) (fun h0 => ?_)
    · skip
      refine zz_goto 1144 3988 Z.1.1 dL_law_1144 (by decide) ?_
      refine zz_lvs [2, 3, 4, 5, 6, 7] rfl ?_
      exact kk q1 w q2 od _ _ hIN.2 (by omega) (by omega)
    · skip
      have hv0 := hv (by omega)
      rw [← eo] at hv0
      refine zz_aload_n 1132 Z.1.1 5 dL_law_1132 rfl ?_
      refine zz_iconst 1133 Z.1.1 (v := nI 0) dL_law_1133 rfl ?_
      refine lw_lld 1134 Z dL_law_1134 ?_
      refine zz_iload 1135 Z.1.1 0 dL_law_1135 rfl ?_
      refine zz_i2l 1137 Z.1.1 dL_law_1137 rfl ?_
      refine zz_lcmp 1138 Z.1.1 dL_law_1138 ?_
      refine zz_ifL_eq 1139 1144 Z.1.1 dL_law_1139 (by decide) (fun h => ?_) (fun h => ?_)
      · skip
        refine zz_goto 1144 3988 Z.1.1 dL_law_1144 (by decide) ?_
        refine zz_lvs [2, 3, 4, 5, 6, 7] rfl ?_
        exact kk q1 w q2 od _ _ hIN.2 (by omega) (by omega)
      · exact absurd (hv0) h
  · exact absurd rfl h

set_option maxHeartbeats 8000000 in
set_option maxRecDepth 100000 in
theorem cs_removeAll {p : Program} {l : Launch} {e : Env} {s : State} {m : MethodId} {args : Array Value} {below : List Frame} {meth : Method} {c : Code} {Q : State → Prop} {D : va_G} {C : Nat → ClassId} {cD : ClassId} {K KR : Nat → Nat} {A : Nat → Prop} {adK adV : Nat → Nat} {ao ad b L : Nat} {xs : Nat → Int32} {u : CSt} {v : MSt} {o : Int64} {od : UInt64} {cells slots i : Nat} (Z : LCx p l s m args c meth A D C cD K KR adK adV ao ad b L xs) (hI : INV u v) (hi : i + 8 ≤ L) (hcs : cells + 1 ≤ room_1.cells ∧ slots + 6 ≤ room_1.slots) (kk : NXT p l e s m args below meth c Q A D C cD K KR ao ad b i cells slots) : ZZ p l e room_1 s m args below meth c cells slots Q A (PL D C cD K KR ao ad u v o od) 10 (lvL b (K 0) (KR 0) ao ad i) [] 1147 := by
  obtain ⟨x1, e1⟩ : ∃ z : Int32, xs (i + 1) = z := ⟨_, rfl⟩
  refine zz_aload_n 1147 Z.1.1 1 dL_law_1147 rfl ?_
  refine zz_aload_n 1148 Z.1.1 0 dL_law_1148 rfl ?_
  refine zz_iload 1149 Z.1.1 5 dL_law_1149 rfl ?_
  refine zz_iconst 1151 Z.1.1 (v := nI 1) dL_law_1151 rfl ?_
  refine zz_iadd 1152 Z.1.1 (v := nI (i + 1)) dL_law_1152 (nI_add i 1) ?_
  refine lw_sld 1153 Z (j := i + 1) (by omega) e1 dL_law_1153 ?_
  refine zz_aload_n 1154 Z.1.1 3 dL_law_1154 rfl ?_
  obtain ⟨kc, rb, o', CU, RV, postR, hW, hR, hp, hq, hk, hv⟩ := pr_removeAll l Z.2.2.1 D C cD K KR adK adV ao Z.2.2.2.2.2.1.1.1 Z.2.2.2.2.2.1.1.2 Z.2.2.2.2.2.1.aoD u v o hI x1
  refine lw_callW 1155 Z (na := 3) (As := [.int x1]) hW gL_law_L_removeAll rfl ⟨rfl, rfl⟩ (by decide +kernel) ⟨Nat.le_of_ble_eq_true rfl, Nat.le_of_ble_eq_true rfl⟩ rfl rfl (Nat.le_of_ble_eq_true rfl) hcs dL_law_1155 ?_
  rintro r ⟨q1, q2⟩ ⟨er, eo, hC⟩
  replace eo : q2 = o' := eo
  replace hC : CU q1 := hC
  rw [er]
  refine zz_world (P' := (PL D C cD K KR ao ad q1 v q2 od)) (fun _ h => h) ?_
  refine zz_istore 1158 Z.1.1 (lv' := [(6, .int (nI kc)), (0, .ref b), (1, .ref (K 0)), (2, .ref (KR 0)), (3, .ref ao), (4, .ref ad), (5, .int (nI i))]) dL_law_1158 (by decide) rfl ?_
  refine zz_aload_n 1160 Z.1.1 3 dL_law_1160 rfl ?_
  refine zz_aload_n 1161 Z.1.1 1 dL_law_1161 rfl ?_
  refine zz_iload 1162 Z.1.1 6 dL_law_1162 rfl ?_
  refine zz_iconst 1164 Z.1.1 (v := nI 1) dL_law_1164 rfl ?_
  refine zz_iadd 1165 Z.1.1 (v := nI (i + 1)) dL_law_1165 (nI_add i 1) ?_
  refine lw_sld 1166 Z (j := i + 1) (by omega) e1 dL_law_1166 ?_
  refine lw_callRi 1167 Z (As := [.int x1]) hR gL_law_X7_removeAll rfl ⟨rfl, rfl⟩ yd_X7_removeAll ⟨Nat.le_of_ble_eq_true rfl, Nat.le_of_ble_eq_true rfl⟩ rfl rfl (Nat.le_of_ble_eq_true rfl) hcs dL_law_1167 ?_
  intro r2 w hw2
  obtain ⟨er2, hV⟩ := hp r2 w hw2
  rw [er2]
  have hIN := hq q1 w hC hV
  refine zz_istore 1170 Z.1.1 (lv' := [(7, .int rb), (6, .int (nI kc)), (0, .ref b), (1, .ref (K 0)), (2, .ref (KR 0)), (3, .ref ao), (4, .ref ad), (5, .int (nI i))]) dL_law_1170 (by decide) rfl ?_
  refine zz_aload_n 1172 Z.1.1 4 dL_law_1172 rfl ?_
  refine lw_callRi 1173 Z (As := []) (kt_X7_thrown l D C KR Z.2.2.2.2.2.1.1.2 w.1 w.2.1 w.2.2.1 w.2.2.2 kc hIN.1) gL_law_X7_thrown rfl ⟨rfl, rfl⟩ yd_X7_thrown ⟨Nat.le_of_ble_eq_true rfl, Nat.le_of_ble_eq_true rfl⟩ rfl rfl (Nat.le_of_ble_eq_true rfl) hcs dL_law_1173 ?_
  rintro r3 w3 ⟨er3, ew3⟩
  subst ew3
  rw [er3]
  refine zz_world (P' := (PL D C cD K KR ao ad q1 w q2 od)) (fun _ h => h) ?_
  refine zz_iload 1176 Z.1.1 1 dL_law_1176 rfl ?_
  refine zz_icmp_eq 1178 1183 Z.1.1 (nI_toInt (by omega)) (nI_toInt (by omega)) dL_law_1178 (by decide) (fun h => ?_) (fun h => ?_)
  · skip
    refine zz_iload 1183 Z.1.1 1 dL_law_1183 rfl ?_
    refine zz_if_ne 1185 1200 Z.1.1 (nI_toInt (by omega)) dL_law_1185 (by decide) (fun h0 => ?_) (fun h0 => ?_)
    · skip
      refine zz_goto 1200 3988 Z.1.1 dL_law_1200 (by decide) ?_
      refine zz_lvs [2, 3, 4, 5, 6, 7] rfl ?_
      exact kk q1 w q2 od _ _ hIN.2 (by omega) (by omega)
    · skip
      have hv0 := hv (by omega)
      rw [← eo] at hv0
      refine zz_aload_n 1188 Z.1.1 5 dL_law_1188 rfl ?_
      refine zz_iconst 1189 Z.1.1 (v := nI 0) dL_law_1189 rfl ?_
      refine lw_lld 1190 Z dL_law_1190 ?_
      refine zz_iload 1191 Z.1.1 0 dL_law_1191 rfl ?_
      refine zz_i2l 1193 Z.1.1 dL_law_1193 rfl ?_
      refine zz_lcmp 1194 Z.1.1 dL_law_1194 ?_
      refine zz_ifL_eq 1195 1200 Z.1.1 dL_law_1195 (by decide) (fun h => ?_) (fun h => ?_)
      · skip
        refine zz_goto 1200 3988 Z.1.1 dL_law_1200 (by decide) ?_
        refine zz_lvs [2, 3, 4, 5, 6, 7] rfl ?_
        exact kk q1 w q2 od _ _ hIN.2 (by omega) (by omega)
      · exact absurd (hv0) h
  · exact absurd rfl h
