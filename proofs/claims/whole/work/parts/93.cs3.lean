set_option maxHeartbeats 8000000 in
set_option maxRecDepth 100000 in
theorem cs_byteAt {p : Program} {l : Launch} {e : Env} {s : State} {m : MethodId} {args : Array Value} {below : List Frame} {meth : Method} {c : Code} {Q : State → Prop} {D : va_G} {C : Nat → ClassId} {cD : ClassId} {K KR : Nat → Nat} {A : Nat → Prop} {adK adV : Nat → Nat} {ao ad b L : Nat} {xs : Nat → Int32} {u : CSt} {v : MSt} {o : Int64} {od : UInt64} {cells slots i : Nat} (Z : LCx p l s m args c meth A D C cD K KR adK adV ao ad b L xs) (hI : INV u v) (hi : i + 8 ≤ L) (hcs : cells + 1 ≤ room_1.cells ∧ slots + 6 ≤ room_1.slots) (kk : NXT p l e s m args below meth c Q A D C cD K KR ao ad b i cells slots) : ZZ p l e room_1 s m args below meth c cells slots Q A (PL D C cD K KR ao ad u v o od) 10 (lvL b (K 0) (KR 0) ao ad i) [] 2266 := by
  obtain ⟨x1, e1⟩ : ∃ z : Int32, xs (i + 1) = z := ⟨_, rfl⟩
  obtain ⟨x2, e2⟩ : ∃ z : Int32, xs (i + 2) = z := ⟨_, rfl⟩
  refine zz_aload_n 2266 Z.1.1 1 dL_law_2266 rfl ?_
  refine zz_aload_n 2267 Z.1.1 0 dL_law_2267 rfl ?_
  refine zz_iload 2268 Z.1.1 5 dL_law_2268 rfl ?_
  refine zz_iconst 2270 Z.1.1 (v := nI 1) dL_law_2270 rfl ?_
  refine zz_iadd 2271 Z.1.1 (v := nI (i + 1)) dL_law_2271 (nI_add i 1) ?_
  refine lw_sld 2272 Z (j := i + 1) (by omega) e1 dL_law_2272 ?_
  refine zz_aload_n 2273 Z.1.1 0 dL_law_2273 rfl ?_
  refine zz_iload 2274 Z.1.1 5 dL_law_2274 rfl ?_
  refine zz_iconst 2276 Z.1.1 (v := nI 2) dL_law_2276 rfl ?_
  refine zz_iadd 2277 Z.1.1 (v := nI (i + 2)) dL_law_2277 (nI_add i 2) ?_
  refine lw_sld 2278 Z (j := i + 2) (by omega) e2 dL_law_2278 ?_
  refine zz_aload_n 2279 Z.1.1 3 dL_law_2279 rfl ?_
  obtain ⟨kc, rb, o', CU, RV, postR, hW, hR, hp, hq, hk, hv⟩ := pr_byteAt l Z.2.2.1 D C cD K KR adK adV ao Z.2.2.2.2.2.1.1.1 Z.2.2.2.2.2.1.1.2 Z.2.2.2.2.2.1.aoD u v o hI x1 x2
  refine lw_callW 2280 Z (na := 4) (As := [.int x1, .int x2]) hW gL_law_L_byteAt rfl ⟨rfl, rfl⟩ (by decide +kernel) ⟨Nat.le_of_ble_eq_true rfl, Nat.le_of_ble_eq_true rfl⟩ rfl rfl (Nat.le_of_ble_eq_true rfl) hcs dL_law_2280 ?_
  rintro r ⟨q1, q2⟩ ⟨er, eo, hC⟩
  replace eo : q2 = o' := eo
  replace hC : CU q1 := hC
  rw [er]
  refine zz_world (P' := (PL D C cD K KR ao ad q1 v q2 od)) (fun _ h => h) ?_
  refine zz_istore 2283 Z.1.1 (lv' := [(6, .int (nI kc)), (0, .ref b), (1, .ref (K 0)), (2, .ref (KR 0)), (3, .ref ao), (4, .ref ad), (5, .int (nI i))]) dL_law_2283 (by decide) rfl ?_
  refine zz_aload_n 2285 Z.1.1 3 dL_law_2285 rfl ?_
  refine zz_aload_n 2286 Z.1.1 1 dL_law_2286 rfl ?_
  refine zz_iload 2287 Z.1.1 6 dL_law_2287 rfl ?_
  refine zz_iconst 2289 Z.1.1 (v := nI 1) dL_law_2289 rfl ?_
  refine zz_iadd 2290 Z.1.1 (v := nI (i + 1)) dL_law_2290 (nI_add i 1) ?_
  refine lw_sld 2291 Z (j := i + 1) (by omega) e1 dL_law_2291 ?_
  refine zz_aload_n 2292 Z.1.1 1 dL_law_2292 rfl ?_
  refine zz_iload 2293 Z.1.1 6 dL_law_2293 rfl ?_
  refine zz_iconst 2295 Z.1.1 (v := nI 2) dL_law_2295 rfl ?_
  refine zz_iadd 2296 Z.1.1 (v := nI (i + 2)) dL_law_2296 (nI_add i 2) ?_
  refine lw_sld 2297 Z (j := i + 2) (by omega) e2 dL_law_2297 ?_
  refine lw_callRi 2298 Z (As := [.int x1, .int x2]) hR gL_law_X7_byteAt rfl ⟨rfl, rfl⟩ yd_X7_byteAt ⟨Nat.le_of_ble_eq_true rfl, Nat.le_of_ble_eq_true rfl⟩ rfl rfl (Nat.le_of_ble_eq_true rfl) hcs dL_law_2298 ?_
  intro r2 w hw2
  obtain ⟨er2, hV⟩ := hp r2 w hw2
  rw [er2]
  have hIN := hq q1 w hC hV
  refine zz_istore 2301 Z.1.1 (lv' := [(7, .int rb), (6, .int (nI kc)), (0, .ref b), (1, .ref (K 0)), (2, .ref (KR 0)), (3, .ref ao), (4, .ref ad), (5, .int (nI i))]) dL_law_2301 (by decide) rfl ?_
  refine zz_aload_n 2303 Z.1.1 4 dL_law_2303 rfl ?_
  refine lw_callRi 2304 Z (As := []) (kt_X7_thrown l D C KR Z.2.2.2.2.2.1.1.2 w.1 w.2.1 w.2.2.1 w.2.2.2 kc hIN.1) gL_law_X7_thrown rfl ⟨rfl, rfl⟩ yd_X7_thrown ⟨Nat.le_of_ble_eq_true rfl, Nat.le_of_ble_eq_true rfl⟩ rfl rfl (Nat.le_of_ble_eq_true rfl) hcs dL_law_2304 ?_
  rintro r3 w3 ⟨er3, ew3⟩
  subst ew3
  rw [er3]
  refine zz_world (P' := (PL D C cD K KR ao ad q1 w q2 od)) (fun _ h => h) ?_
  refine zz_iload 2307 Z.1.1 1 dL_law_2307 rfl ?_
  refine zz_icmp_eq 2309 2314 Z.1.1 (nI_toInt (by omega)) (nI_toInt (by omega)) dL_law_2309 (by decide) (fun h => ?_) (fun h => ?_)
  · skip
    refine zz_iload 2314 Z.1.1 1 dL_law_2314 rfl ?_
    refine zz_if_ne 2316 2331 Z.1.1 (nI_toInt (by omega)) dL_law_2316 (by decide) (fun h0 => ?_) (fun h0 => ?_)
    · skip
      refine zz_goto 2331 3988 Z.1.1 dL_law_2331 (by decide) ?_
      refine zz_lvs [2, 3, 4, 5, 6, 7] rfl ?_
      exact kk q1 w q2 od _ _ hIN.2 (by omega) (by omega)
    · skip
      have hv0 := hv (by omega)
      rw [← eo] at hv0
      refine zz_aload_n 2319 Z.1.1 5 dL_law_2319 rfl ?_
      refine zz_iconst 2320 Z.1.1 (v := nI 0) dL_law_2320 rfl ?_
      refine lw_lld 2321 Z dL_law_2321 ?_
      refine zz_iload 2322 Z.1.1 0 dL_law_2322 rfl ?_
      refine zz_i2l 2324 Z.1.1 dL_law_2324 rfl ?_
      refine zz_lcmp 2325 Z.1.1 dL_law_2325 ?_
      refine zz_ifL_eq 2326 2331 Z.1.1 dL_law_2326 (by decide) (fun h => ?_) (fun h => ?_)
      · skip
        refine zz_goto 2331 3988 Z.1.1 dL_law_2331 (by decide) ?_
        refine zz_lvs [2, 3, 4, 5, 6, 7] rfl ?_
        exact kk q1 w q2 od _ _ hIN.2 (by omega) (by omega)
      · exact absurd (hv0) h
  · exact absurd rfl h

set_option maxHeartbeats 8000000 in
set_option maxRecDepth 100000 in
theorem cs_fingerprint {p : Program} {l : Launch} {e : Env} {s : State} {m : MethodId} {args : Array Value} {below : List Frame} {meth : Method} {c : Code} {Q : State → Prop} {D : va_G} {C : Nat → ClassId} {cD : ClassId} {K KR : Nat → Nat} {A : Nat → Prop} {adK adV : Nat → Nat} {ao ad b L : Nat} {xs : Nat → Int32} {u : CSt} {v : MSt} {o : Int64} {od : UInt64} {cells slots i : Nat} (Z : LCx p l s m args c meth A D C cD K KR adK adV ao ad b L xs) (hI : INV u v) (hi : i + 8 ≤ L) (hcs : cells + 1 ≤ room_1.cells ∧ slots + 6 ≤ room_1.slots) (kk : NXT p l e s m args below meth c Q A D C cD K KR ao ad b i cells slots) : ZZ p l e room_1 s m args below meth c cells slots Q A (PL D C cD K KR ao ad u v o od) 10 (lvL b (K 0) (KR 0) ao ad i) [] 2334 := by
  obtain ⟨x1, e1⟩ : ∃ z : Int32, xs (i + 1) = z := ⟨_, rfl⟩
  refine zz_aload_n 2334 Z.1.1 1 dL_law_2334 rfl ?_
  refine zz_aload_n 2335 Z.1.1 0 dL_law_2335 rfl ?_
  refine zz_iload 2336 Z.1.1 5 dL_law_2336 rfl ?_
  refine zz_iconst 2338 Z.1.1 (v := nI 1) dL_law_2338 rfl ?_
  refine zz_iadd 2339 Z.1.1 (v := nI (i + 1)) dL_law_2339 (nI_add i 1) ?_
  refine lw_sld 2340 Z (j := i + 1) (by omega) e1 dL_law_2340 ?_
  refine zz_aload_n 2341 Z.1.1 3 dL_law_2341 rfl ?_
  obtain ⟨kc, rb, o', CU, RV, postR, hW, hR, hp, hq, hk, hv⟩ := pr_fingerprint l Z.2.2.1 D C cD K KR adK adV ao Z.2.2.2.2.2.1.1.1 Z.2.2.2.2.2.1.1.2 Z.2.2.2.2.2.1.aoD u v o hI x1
  refine lw_callW 2342 Z (na := 3) (As := [.int x1]) hW gL_law_L_fingerprint rfl ⟨rfl, rfl⟩ (by decide +kernel) ⟨Nat.le_of_ble_eq_true rfl, Nat.le_of_ble_eq_true rfl⟩ rfl rfl (Nat.le_of_ble_eq_true rfl) hcs dL_law_2342 ?_
  rintro r ⟨q1, q2⟩ ⟨er, eo, hC⟩
  replace eo : q2 = o' := eo
  replace hC : CU q1 := hC
  rw [er]
  refine zz_world (P' := (PL D C cD K KR ao ad q1 v q2 od)) (fun _ h => h) ?_
  refine zz_istore 2345 Z.1.1 (lv' := [(6, .int (nI kc)), (0, .ref b), (1, .ref (K 0)), (2, .ref (KR 0)), (3, .ref ao), (4, .ref ad), (5, .int (nI i))]) dL_law_2345 (by decide) rfl ?_
  refine zz_aload_n 2347 Z.1.1 3 dL_law_2347 rfl ?_
  refine zz_aload_n 2348 Z.1.1 1 dL_law_2348 rfl ?_
  refine zz_iload 2349 Z.1.1 6 dL_law_2349 rfl ?_
  refine zz_iconst 2351 Z.1.1 (v := nI 1) dL_law_2351 rfl ?_
  refine zz_iadd 2352 Z.1.1 (v := nI (i + 1)) dL_law_2352 (nI_add i 1) ?_
  refine lw_sld 2353 Z (j := i + 1) (by omega) e1 dL_law_2353 ?_
  refine lw_callRi 2354 Z (As := [.int x1]) hR gL_law_X7_fingerprint rfl ⟨rfl, rfl⟩ yd_X7_fingerprint ⟨Nat.le_of_ble_eq_true rfl, Nat.le_of_ble_eq_true rfl⟩ rfl rfl (Nat.le_of_ble_eq_true rfl) hcs dL_law_2354 ?_
  intro r2 w hw2
  obtain ⟨er2, hV⟩ := hp r2 w hw2
  rw [er2]
  have hIN := hq q1 w hC hV
  refine zz_istore 2357 Z.1.1 (lv' := [(7, .int rb), (6, .int (nI kc)), (0, .ref b), (1, .ref (K 0)), (2, .ref (KR 0)), (3, .ref ao), (4, .ref ad), (5, .int (nI i))]) dL_law_2357 (by decide) rfl ?_
  refine zz_aload_n 2359 Z.1.1 4 dL_law_2359 rfl ?_
  refine lw_callRi 2360 Z (As := []) (kt_X7_thrown l D C KR Z.2.2.2.2.2.1.1.2 w.1 w.2.1 w.2.2.1 w.2.2.2 kc hIN.1) gL_law_X7_thrown rfl ⟨rfl, rfl⟩ yd_X7_thrown ⟨Nat.le_of_ble_eq_true rfl, Nat.le_of_ble_eq_true rfl⟩ rfl rfl (Nat.le_of_ble_eq_true rfl) hcs dL_law_2360 ?_
  rintro r3 w3 ⟨er3, ew3⟩
  subst ew3
  rw [er3]
  refine zz_world (P' := (PL D C cD K KR ao ad q1 w q2 od)) (fun _ h => h) ?_
  refine zz_iload 2363 Z.1.1 1 dL_law_2363 rfl ?_
  refine zz_icmp_eq 2365 2370 Z.1.1 (nI_toInt (by omega)) (nI_toInt (by omega)) dL_law_2365 (by decide) (fun h => ?_) (fun h => ?_)
  · skip
    refine zz_iload 2370 Z.1.1 1 dL_law_2370 rfl ?_
    refine zz_if_ne 2372 2387 Z.1.1 (nI_toInt (by omega)) dL_law_2372 (by decide) (fun h0 => ?_) (fun h0 => ?_)
    · skip
      refine zz_goto 2387 3988 Z.1.1 dL_law_2387 (by decide) ?_
      refine zz_lvs [2, 3, 4, 5, 6, 7] rfl ?_
      exact kk q1 w q2 od _ _ hIN.2 (by omega) (by omega)
    · skip
      have hv0 := hv (by omega)
      rw [← eo] at hv0
      refine zz_aload_n 2375 Z.1.1 5 dL_law_2375 rfl ?_
      refine zz_iconst 2376 Z.1.1 (v := nI 0) dL_law_2376 rfl ?_
      refine lw_lld 2377 Z dL_law_2377 ?_
      refine zz_iload 2378 Z.1.1 0 dL_law_2378 rfl ?_
      refine zz_i2l 2380 Z.1.1 dL_law_2380 rfl ?_
      refine zz_lcmp 2381 Z.1.1 dL_law_2381 ?_
      refine zz_ifL_eq 2382 2387 Z.1.1 dL_law_2382 (by decide) (fun h => ?_) (fun h => ?_)
      · skip
        refine zz_goto 2387 3988 Z.1.1 dL_law_2387 (by decide) ?_
        refine zz_lvs [2, 3, 4, 5, 6, 7] rfl ?_
        exact kk q1 w q2 od _ _ hIN.2 (by omega) (by omega)
      · exact absurd (hv0) h
  · exact absurd rfl h

set_option maxHeartbeats 8000000 in
set_option maxRecDepth 100000 in
theorem cs_has {p : Program} {l : Launch} {e : Env} {s : State} {m : MethodId} {args : Array Value} {below : List Frame} {meth : Method} {c : Code} {Q : State → Prop} {D : va_G} {C : Nat → ClassId} {cD : ClassId} {K KR : Nat → Nat} {A : Nat → Prop} {adK adV : Nat → Nat} {ao ad b L : Nat} {xs : Nat → Int32} {u : CSt} {v : MSt} {o : Int64} {od : UInt64} {cells slots i : Nat} (Z : LCx p l s m args c meth A D C cD K KR adK adV ao ad b L xs) (hI : INV u v) (hi : i + 8 ≤ L) (hcs : cells + 1 ≤ room_1.cells ∧ slots + 6 ≤ room_1.slots) (kk : NXT p l e s m args below meth c Q A D C cD K KR ao ad b i cells slots) : ZZ p l e room_1 s m args below meth c cells slots Q A (PL D C cD K KR ao ad u v o od) 10 (lvL b (K 0) (KR 0) ao ad i) [] 2390 := by
  obtain ⟨x1, e1⟩ : ∃ z : Int32, xs (i + 1) = z := ⟨_, rfl⟩
  obtain ⟨x2, e2⟩ : ∃ z : Int32, xs (i + 2) = z := ⟨_, rfl⟩
  refine zz_aload_n 2390 Z.1.1 1 dL_law_2390 rfl ?_
  refine zz_aload_n 2391 Z.1.1 0 dL_law_2391 rfl ?_
  refine zz_iload 2392 Z.1.1 5 dL_law_2392 rfl ?_
  refine zz_iconst 2394 Z.1.1 (v := nI 1) dL_law_2394 rfl ?_
  refine zz_iadd 2395 Z.1.1 (v := nI (i + 1)) dL_law_2395 (nI_add i 1) ?_
  refine lw_sld 2396 Z (j := i + 1) (by omega) e1 dL_law_2396 ?_
  refine zz_aload_n 2397 Z.1.1 0 dL_law_2397 rfl ?_
  refine zz_iload 2398 Z.1.1 5 dL_law_2398 rfl ?_
  refine zz_iconst 2400 Z.1.1 (v := nI 2) dL_law_2400 rfl ?_
  refine zz_iadd 2401 Z.1.1 (v := nI (i + 2)) dL_law_2401 (nI_add i 2) ?_
  refine lw_sld 2402 Z (j := i + 2) (by omega) e2 dL_law_2402 ?_
  refine zz_aload_n 2403 Z.1.1 3 dL_law_2403 rfl ?_
  obtain ⟨kc, rb, o', CU, RV, postR, hW, hR, hp, hq, hk, hv⟩ := pr_has l Z.2.2.1 D C cD K KR adK adV ao Z.2.2.2.2.2.1.1.1 Z.2.2.2.2.2.1.1.2 Z.2.2.2.2.2.1.aoD u v o hI x1 x2
  refine lw_callW 2404 Z (na := 4) (As := [.int x1, .int x2]) hW gL_law_L_has rfl ⟨rfl, rfl⟩ (by decide +kernel) ⟨Nat.le_of_ble_eq_true rfl, Nat.le_of_ble_eq_true rfl⟩ rfl rfl (Nat.le_of_ble_eq_true rfl) hcs dL_law_2404 ?_
  rintro r ⟨q1, q2⟩ ⟨er, eo, hC⟩
  replace eo : q2 = o' := eo
  replace hC : CU q1 := hC
  rw [er]
  refine zz_world (P' := (PL D C cD K KR ao ad q1 v q2 od)) (fun _ h => h) ?_
  refine zz_istore 2407 Z.1.1 (lv' := [(6, .int (nI kc)), (0, .ref b), (1, .ref (K 0)), (2, .ref (KR 0)), (3, .ref ao), (4, .ref ad), (5, .int (nI i))]) dL_law_2407 (by decide) rfl ?_
  refine zz_aload_n 2409 Z.1.1 3 dL_law_2409 rfl ?_
  refine zz_aload_n 2410 Z.1.1 1 dL_law_2410 rfl ?_
  refine zz_iload 2411 Z.1.1 6 dL_law_2411 rfl ?_
  refine zz_iconst 2413 Z.1.1 (v := nI 1) dL_law_2413 rfl ?_
  refine zz_iadd 2414 Z.1.1 (v := nI (i + 1)) dL_law_2414 (nI_add i 1) ?_
  refine lw_sld 2415 Z (j := i + 1) (by omega) e1 dL_law_2415 ?_
  refine zz_aload_n 2416 Z.1.1 1 dL_law_2416 rfl ?_
  refine zz_iload 2417 Z.1.1 6 dL_law_2417 rfl ?_
  refine zz_iconst 2419 Z.1.1 (v := nI 2) dL_law_2419 rfl ?_
  refine zz_iadd 2420 Z.1.1 (v := nI (i + 2)) dL_law_2420 (nI_add i 2) ?_
  refine lw_sld 2421 Z (j := i + 2) (by omega) e2 dL_law_2421 ?_
  refine lw_callRi 2422 Z (As := [.int x1, .int x2]) hR gL_law_X7_has rfl ⟨rfl, rfl⟩ yd_X7_has ⟨Nat.le_of_ble_eq_true rfl, Nat.le_of_ble_eq_true rfl⟩ rfl rfl (Nat.le_of_ble_eq_true rfl) hcs dL_law_2422 ?_
  intro r2 w hw2
  obtain ⟨er2, hV⟩ := hp r2 w hw2
  rw [er2]
  have hIN := hq q1 w hC hV
  refine zz_istore 2425 Z.1.1 (lv' := [(7, .int rb), (6, .int (nI kc)), (0, .ref b), (1, .ref (K 0)), (2, .ref (KR 0)), (3, .ref ao), (4, .ref ad), (5, .int (nI i))]) dL_law_2425 (by decide) rfl ?_
  refine zz_aload_n 2427 Z.1.1 4 dL_law_2427 rfl ?_
  refine lw_callRi 2428 Z (As := []) (kt_X7_thrown l D C KR Z.2.2.2.2.2.1.1.2 w.1 w.2.1 w.2.2.1 w.2.2.2 kc hIN.1) gL_law_X7_thrown rfl ⟨rfl, rfl⟩ yd_X7_thrown ⟨Nat.le_of_ble_eq_true rfl, Nat.le_of_ble_eq_true rfl⟩ rfl rfl (Nat.le_of_ble_eq_true rfl) hcs dL_law_2428 ?_
  rintro r3 w3 ⟨er3, ew3⟩
  subst ew3
  rw [er3]
  refine zz_world (P' := (PL D C cD K KR ao ad q1 w q2 od)) (fun _ h => h) ?_
  refine zz_iload 2431 Z.1.1 1 dL_law_2431 rfl ?_
  refine zz_icmp_eq 2433 2438 Z.1.1 (nI_toInt (by omega)) (nI_toInt (by omega)) dL_law_2433 (by decide) (fun h => ?_) (fun h => ?_)
  · skip
    refine zz_iload 2438 Z.1.1 1 dL_law_2438 rfl ?_
    refine zz_if_ne 2440 2462 Z.1.1 (nI_toInt (by omega)) dL_law_2440 (by decide) (fun h0 => ?_) (fun h0 => ?_)
    · skip
      refine zz_goto 2462 3988 Z.1.1 dL_law_2462 (by decide) ?_
      refine zz_lvs [2, 3, 4, 5, 6, 7] rfl ?_
      exact kk q1 w q2 od _ _ hIN.2 (by omega) (by omega)
    · skip
      have hv0 := hv (by omega)
      rw [← eo] at hv0
      refine zz_aload_n 2443 Z.1.1 5 dL_law_2443 rfl ?_
      refine zz_iconst 2444 Z.1.1 (v := nI 0) dL_law_2444 rfl ?_
      refine lw_lld 2445 Z dL_law_2445 ?_
      refine zz_iload 2446 Z.1.1 0 dL_law_2446 rfl ?_
      refine zz_if_eq 2448 2455 Z.1.1 rfl dL_law_2448 (by decide) (fun h7 => ?_) (fun h7 => ?_)
      · skip
        refine zz_lconst 2455 Z.1.1 (v := 0) dL_law_2455 (by decide) ?_
        refine zz_lcmp 2456 Z.1.1 dL_law_2456 ?_
        refine zz_ifL_eq 2457 2462 Z.1.1 dL_law_2457 (by decide) (fun h => ?_) (fun h => ?_)
        · skip
          refine zz_goto 2462 3988 Z.1.1 dL_law_2462 (by decide) ?_
          refine zz_lvs [2, 3, 4, 5, 6, 7] rfl ?_
          exact kk q1 w q2 od _ _ hIN.2 (by omega) (by omega)
        · exact absurd (hv0.trans (if_pos (i32_z h7))) h
      · skip
        refine zz_lconst 2451 Z.1.1 (v := 1) dL_law_2451 (by decide) ?_
        refine zz_goto 2452 2456 Z.1.1 dL_law_2452 (by decide) ?_
        refine zz_lcmp 2456 Z.1.1 dL_law_2456 ?_
        refine zz_ifL_eq 2457 2462 Z.1.1 dL_law_2457 (by decide) (fun h => ?_) (fun h => ?_)
        · skip
          refine zz_goto 2462 3988 Z.1.1 dL_law_2462 (by decide) ?_
          refine zz_lvs [2, 3, 4, 5, 6, 7] rfl ?_
          exact kk q1 w q2 od _ _ hIN.2 (by omega) (by omega)
        · exact absurd (hv0.trans (if_neg (fun z => h7 (by rw [z]; rfl)))) h
  · exact absurd rfl h

set_option maxHeartbeats 8000000 in
set_option maxRecDepth 100000 in
theorem cs_count {p : Program} {l : Launch} {e : Env} {s : State} {m : MethodId} {args : Array Value} {below : List Frame} {meth : Method} {c : Code} {Q : State → Prop} {D : va_G} {C : Nat → ClassId} {cD : ClassId} {K KR : Nat → Nat} {A : Nat → Prop} {adK adV : Nat → Nat} {ao ad b L : Nat} {xs : Nat → Int32} {u : CSt} {v : MSt} {o : Int64} {od : UInt64} {cells slots i : Nat} (Z : LCx p l s m args c meth A D C cD K KR adK adV ao ad b L xs) (hI : INV u v) (hi : i + 8 ≤ L) (hcs : cells + 1 ≤ room_1.cells ∧ slots + 6 ≤ room_1.slots) (kk : NXT p l e s m args below meth c Q A D C cD K KR ao ad b i cells slots) : ZZ p l e room_1 s m args below meth c cells slots Q A (PL D C cD K KR ao ad u v o od) 10 (lvL b (K 0) (KR 0) ao ad i) [] 2465 := by
  obtain ⟨x1, e1⟩ : ∃ z : Int32, xs (i + 1) = z := ⟨_, rfl⟩
  refine zz_aload_n 2465 Z.1.1 1 dL_law_2465 rfl ?_
  refine zz_aload_n 2466 Z.1.1 0 dL_law_2466 rfl ?_
  refine zz_iload 2467 Z.1.1 5 dL_law_2467 rfl ?_
  refine zz_iconst 2469 Z.1.1 (v := nI 1) dL_law_2469 rfl ?_
  refine zz_iadd 2470 Z.1.1 (v := nI (i + 1)) dL_law_2470 (nI_add i 1) ?_
  refine lw_sld 2471 Z (j := i + 1) (by omega) e1 dL_law_2471 ?_
  refine zz_aload_n 2472 Z.1.1 3 dL_law_2472 rfl ?_
  obtain ⟨kc, rb, o', CU, RV, postR, hW, hR, hp, hq, hk, hv⟩ := pr_count l Z.2.2.1 D C cD K KR adK adV ao Z.2.2.2.2.2.1.1.1 Z.2.2.2.2.2.1.1.2 Z.2.2.2.2.2.1.aoD u v o hI x1
  refine lw_callW 2473 Z (na := 3) (As := [.int x1]) hW gL_law_L_count rfl ⟨rfl, rfl⟩ (by decide +kernel) ⟨Nat.le_of_ble_eq_true rfl, Nat.le_of_ble_eq_true rfl⟩ rfl rfl (Nat.le_of_ble_eq_true rfl) hcs dL_law_2473 ?_
  rintro r ⟨q1, q2⟩ ⟨er, eo, hC⟩
  replace eo : q2 = o' := eo
  replace hC : CU q1 := hC
  rw [er]
  refine zz_world (P' := (PL D C cD K KR ao ad q1 v q2 od)) (fun _ h => h) ?_
  refine zz_istore 2476 Z.1.1 (lv' := [(6, .int (nI kc)), (0, .ref b), (1, .ref (K 0)), (2, .ref (KR 0)), (3, .ref ao), (4, .ref ad), (5, .int (nI i))]) dL_law_2476 (by decide) rfl ?_
  refine zz_aload_n 2478 Z.1.1 3 dL_law_2478 rfl ?_
  refine zz_aload_n 2479 Z.1.1 1 dL_law_2479 rfl ?_
  refine zz_iload 2480 Z.1.1 6 dL_law_2480 rfl ?_
  refine zz_iconst 2482 Z.1.1 (v := nI 1) dL_law_2482 rfl ?_
  refine zz_iadd 2483 Z.1.1 (v := nI (i + 1)) dL_law_2483 (nI_add i 1) ?_
  refine lw_sld 2484 Z (j := i + 1) (by omega) e1 dL_law_2484 ?_
  refine lw_callRi 2485 Z (As := [.int x1]) hR gL_law_X7_count rfl ⟨rfl, rfl⟩ yd_X7_count ⟨Nat.le_of_ble_eq_true rfl, Nat.le_of_ble_eq_true rfl⟩ rfl rfl (Nat.le_of_ble_eq_true rfl) hcs dL_law_2485 ?_
  intro r2 w hw2
  obtain ⟨er2, hV⟩ := hp r2 w hw2
  rw [er2]
  have hIN := hq q1 w hC hV
  refine zz_istore 2488 Z.1.1 (lv' := [(7, .int rb), (6, .int (nI kc)), (0, .ref b), (1, .ref (K 0)), (2, .ref (KR 0)), (3, .ref ao), (4, .ref ad), (5, .int (nI i))]) dL_law_2488 (by decide) rfl ?_
  refine zz_aload_n 2490 Z.1.1 4 dL_law_2490 rfl ?_
  refine lw_callRi 2491 Z (As := []) (kt_X7_thrown l D C KR Z.2.2.2.2.2.1.1.2 w.1 w.2.1 w.2.2.1 w.2.2.2 kc hIN.1) gL_law_X7_thrown rfl ⟨rfl, rfl⟩ yd_X7_thrown ⟨Nat.le_of_ble_eq_true rfl, Nat.le_of_ble_eq_true rfl⟩ rfl rfl (Nat.le_of_ble_eq_true rfl) hcs dL_law_2491 ?_
  rintro r3 w3 ⟨er3, ew3⟩
  subst ew3
  rw [er3]
  refine zz_world (P' := (PL D C cD K KR ao ad q1 w q2 od)) (fun _ h => h) ?_
  refine zz_iload 2494 Z.1.1 1 dL_law_2494 rfl ?_
  refine zz_icmp_eq 2496 2501 Z.1.1 (nI_toInt (by omega)) (nI_toInt (by omega)) dL_law_2496 (by decide) (fun h => ?_) (fun h => ?_)
  · skip
    refine zz_iload 2501 Z.1.1 1 dL_law_2501 rfl ?_
    refine zz_if_ne 2503 2518 Z.1.1 (nI_toInt (by omega)) dL_law_2503 (by decide) (fun h0 => ?_) (fun h0 => ?_)
    · skip
      refine zz_goto 2518 3988 Z.1.1 dL_law_2518 (by decide) ?_
      refine zz_lvs [2, 3, 4, 5, 6, 7] rfl ?_
      exact kk q1 w q2 od _ _ hIN.2 (by omega) (by omega)
    · skip
      have hv0 := hv (by omega)
      rw [← eo] at hv0
      refine zz_aload_n 2506 Z.1.1 5 dL_law_2506 rfl ?_
      refine zz_iconst 2507 Z.1.1 (v := nI 0) dL_law_2507 rfl ?_
      refine lw_lld 2508 Z dL_law_2508 ?_
      refine zz_iload 2509 Z.1.1 0 dL_law_2509 rfl ?_
      refine zz_i2l 2511 Z.1.1 dL_law_2511 rfl ?_
      refine zz_lcmp 2512 Z.1.1 dL_law_2512 ?_
      refine zz_ifL_eq 2513 2518 Z.1.1 dL_law_2513 (by decide) (fun h => ?_) (fun h => ?_)
      · skip
        refine zz_goto 2518 3988 Z.1.1 dL_law_2518 (by decide) ?_
        refine zz_lvs [2, 3, 4, 5, 6, 7] rfl ?_
        exact kk q1 w q2 od _ _ hIN.2 (by omega) (by omega)
      · exact absurd (hv0) h
  · exact absurd rfl h

set_option maxHeartbeats 8000000 in
set_option maxRecDepth 100000 in
theorem cs_countIn {p : Program} {l : Launch} {e : Env} {s : State} {m : MethodId} {args : Array Value} {below : List Frame} {meth : Method} {c : Code} {Q : State → Prop} {D : va_G} {C : Nat → ClassId} {cD : ClassId} {K KR : Nat → Nat} {A : Nat → Prop} {adK adV : Nat → Nat} {ao ad b L : Nat} {xs : Nat → Int32} {u : CSt} {v : MSt} {o : Int64} {od : UInt64} {cells slots i : Nat} (Z : LCx p l s m args c meth A D C cD K KR adK adV ao ad b L xs) (hI : INV u v) (hi : i + 8 ≤ L) (hcs : cells + 1 ≤ room_1.cells ∧ slots + 6 ≤ room_1.slots) (kk : NXT p l e s m args below meth c Q A D C cD K KR ao ad b i cells slots) : ZZ p l e room_1 s m args below meth c cells slots Q A (PL D C cD K KR ao ad u v o od) 10 (lvL b (K 0) (KR 0) ao ad i) [] 2521 := by
  obtain ⟨x1, e1⟩ : ∃ z : Int32, xs (i + 1) = z := ⟨_, rfl⟩
  obtain ⟨x2, e2⟩ : ∃ z : Int32, xs (i + 2) = z := ⟨_, rfl⟩
  obtain ⟨x3, e3⟩ : ∃ z : Int32, xs (i + 3) = z := ⟨_, rfl⟩
  refine zz_aload_n 2521 Z.1.1 1 dL_law_2521 rfl ?_
  refine zz_aload_n 2522 Z.1.1 0 dL_law_2522 rfl ?_
  refine zz_iload 2523 Z.1.1 5 dL_law_2523 rfl ?_
  refine zz_iconst 2525 Z.1.1 (v := nI 1) dL_law_2525 rfl ?_
  refine zz_iadd 2526 Z.1.1 (v := nI (i + 1)) dL_law_2526 (nI_add i 1) ?_
  refine lw_sld 2527 Z (j := i + 1) (by omega) e1 dL_law_2527 ?_
  refine zz_aload_n 2528 Z.1.1 0 dL_law_2528 rfl ?_
  refine zz_iload 2529 Z.1.1 5 dL_law_2529 rfl ?_
  refine zz_iconst 2531 Z.1.1 (v := nI 2) dL_law_2531 rfl ?_
  refine zz_iadd 2532 Z.1.1 (v := nI (i + 2)) dL_law_2532 (nI_add i 2) ?_
  refine lw_sld 2533 Z (j := i + 2) (by omega) e2 dL_law_2533 ?_
  refine zz_aload_n 2534 Z.1.1 0 dL_law_2534 rfl ?_
  refine zz_iload 2535 Z.1.1 5 dL_law_2535 rfl ?_
  refine zz_iconst 2537 Z.1.1 (v := nI 3) dL_law_2537 rfl ?_
  refine zz_iadd 2538 Z.1.1 (v := nI (i + 3)) dL_law_2538 (nI_add i 3) ?_
  refine lw_sld 2539 Z (j := i + 3) (by omega) e3 dL_law_2539 ?_
  refine zz_aload_n 2540 Z.1.1 3 dL_law_2540 rfl ?_
  obtain ⟨kc, rb, o', CU, RV, postR, hW, hR, hp, hq, hk, hv⟩ := pr_countIn l Z.2.2.1 D C cD K KR adK adV ao Z.2.2.2.2.2.1.1.1 Z.2.2.2.2.2.1.1.2 Z.2.2.2.2.2.1.aoD u v o hI x1 x2 x3
  refine lw_callW 2541 Z (na := 5) (As := [.int x1, .int x2, .int x3]) hW gL_law_L_countIn rfl ⟨rfl, rfl⟩ (by decide +kernel) ⟨Nat.le_of_ble_eq_true rfl, Nat.le_of_ble_eq_true rfl⟩ rfl rfl (Nat.le_of_ble_eq_true rfl) hcs dL_law_2541 ?_
  rintro r ⟨q1, q2⟩ ⟨er, eo, hC⟩
  replace eo : q2 = o' := eo
  replace hC : CU q1 := hC
  rw [er]
  refine zz_world (P' := (PL D C cD K KR ao ad q1 v q2 od)) (fun _ h => h) ?_
  refine zz_istore 2544 Z.1.1 (lv' := [(6, .int (nI kc)), (0, .ref b), (1, .ref (K 0)), (2, .ref (KR 0)), (3, .ref ao), (4, .ref ad), (5, .int (nI i))]) dL_law_2544 (by decide) rfl ?_
  refine zz_aload_n 2546 Z.1.1 3 dL_law_2546 rfl ?_
  refine zz_aload_n 2547 Z.1.1 1 dL_law_2547 rfl ?_
  refine zz_iload 2548 Z.1.1 6 dL_law_2548 rfl ?_
  refine zz_iconst 2550 Z.1.1 (v := nI 1) dL_law_2550 rfl ?_
  refine zz_iadd 2551 Z.1.1 (v := nI (i + 1)) dL_law_2551 (nI_add i 1) ?_
  refine lw_sld 2552 Z (j := i + 1) (by omega) e1 dL_law_2552 ?_
  refine zz_aload_n 2553 Z.1.1 1 dL_law_2553 rfl ?_
  refine zz_iload 2554 Z.1.1 6 dL_law_2554 rfl ?_
  refine zz_iconst 2556 Z.1.1 (v := nI 2) dL_law_2556 rfl ?_
  refine zz_iadd 2557 Z.1.1 (v := nI (i + 2)) dL_law_2557 (nI_add i 2) ?_
  refine lw_sld 2558 Z (j := i + 2) (by omega) e2 dL_law_2558 ?_
  refine zz_aload_n 2559 Z.1.1 1 dL_law_2559 rfl ?_
  refine zz_iload 2560 Z.1.1 6 dL_law_2560 rfl ?_
  refine zz_iconst 2562 Z.1.1 (v := nI 3) dL_law_2562 rfl ?_
  refine zz_iadd 2563 Z.1.1 (v := nI (i + 3)) dL_law_2563 (nI_add i 3) ?_
  refine lw_sld 2564 Z (j := i + 3) (by omega) e3 dL_law_2564 ?_
  refine lw_callRi 2565 Z (As := [.int x1, .int x2, .int x3]) hR gL_law_X7_countIn rfl ⟨rfl, rfl⟩ yd_X7_countIn ⟨Nat.le_of_ble_eq_true rfl, Nat.le_of_ble_eq_true rfl⟩ rfl rfl (Nat.le_of_ble_eq_true rfl) hcs dL_law_2565 ?_
  intro r2 w hw2
  obtain ⟨er2, hV⟩ := hp r2 w hw2
  rw [er2]
  have hIN := hq q1 w hC hV
  refine zz_istore 2568 Z.1.1 (lv' := [(7, .int rb), (6, .int (nI kc)), (0, .ref b), (1, .ref (K 0)), (2, .ref (KR 0)), (3, .ref ao), (4, .ref ad), (5, .int (nI i))]) dL_law_2568 (by decide) rfl ?_
  refine zz_aload_n 2570 Z.1.1 4 dL_law_2570 rfl ?_
  refine lw_callRi 2571 Z (As := []) (kt_X7_thrown l D C KR Z.2.2.2.2.2.1.1.2 w.1 w.2.1 w.2.2.1 w.2.2.2 kc hIN.1) gL_law_X7_thrown rfl ⟨rfl, rfl⟩ yd_X7_thrown ⟨Nat.le_of_ble_eq_true rfl, Nat.le_of_ble_eq_true rfl⟩ rfl rfl (Nat.le_of_ble_eq_true rfl) hcs dL_law_2571 ?_
  rintro r3 w3 ⟨er3, ew3⟩
  subst ew3
  rw [er3]
  refine zz_world (P' := (PL D C cD K KR ao ad q1 w q2 od)) (fun _ h => h) ?_
  refine zz_iload 2574 Z.1.1 1 dL_law_2574 rfl ?_
  refine zz_icmp_eq 2576 2581 Z.1.1 (nI_toInt (by omega)) (nI_toInt (by omega)) dL_law_2576 (by decide) (fun h => ?_) (fun h => ?_)
  · skip
    refine zz_iload 2581 Z.1.1 1 dL_law_2581 rfl ?_
    refine zz_if_ne 2583 2598 Z.1.1 (nI_toInt (by omega)) dL_law_2583 (by decide) (fun h0 => ?_) (fun h0 => ?_)
    · skip
      refine zz_goto 2598 3988 Z.1.1 dL_law_2598 (by decide) ?_
      refine zz_lvs [2, 3, 4, 5, 6, 7] rfl ?_
      exact kk q1 w q2 od _ _ hIN.2 (by omega) (by omega)
    · skip
      have hv0 := hv (by omega)
      rw [← eo] at hv0
      refine zz_aload_n 2586 Z.1.1 5 dL_law_2586 rfl ?_
      refine zz_iconst 2587 Z.1.1 (v := nI 0) dL_law_2587 rfl ?_
      refine lw_lld 2588 Z dL_law_2588 ?_
      refine zz_iload 2589 Z.1.1 0 dL_law_2589 rfl ?_
      refine zz_i2l 2591 Z.1.1 dL_law_2591 rfl ?_
      refine zz_lcmp 2592 Z.1.1 dL_law_2592 ?_
      refine zz_ifL_eq 2593 2598 Z.1.1 dL_law_2593 (by decide) (fun h => ?_) (fun h => ?_)
      · skip
        refine zz_goto 2598 3988 Z.1.1 dL_law_2598 (by decide) ?_
        refine zz_lvs [2, 3, 4, 5, 6, 7] rfl ?_
        exact kk q1 w q2 od _ _ hIN.2 (by omega) (by omega)
      · exact absurd (hv0) h
  · exact absurd rfl h

set_option maxHeartbeats 8000000 in
set_option maxRecDepth 100000 in
theorem cs_length {p : Program} {l : Launch} {e : Env} {s : State} {m : MethodId} {args : Array Value} {below : List Frame} {meth : Method} {c : Code} {Q : State → Prop} {D : va_G} {C : Nat → ClassId} {cD : ClassId} {K KR : Nat → Nat} {A : Nat → Prop} {adK adV : Nat → Nat} {ao ad b L : Nat} {xs : Nat → Int32} {u : CSt} {v : MSt} {o : Int64} {od : UInt64} {cells slots i : Nat} (Z : LCx p l s m args c meth A D C cD K KR adK adV ao ad b L xs) (hI : INV u v) (hi : i + 8 ≤ L) (hcs : cells + 1 ≤ room_1.cells ∧ slots + 6 ≤ room_1.slots) (kk : NXT p l e s m args below meth c Q A D C cD K KR ao ad b i cells slots) : ZZ p l e room_1 s m args below meth c cells slots Q A (PL D C cD K KR ao ad u v o od) 10 (lvL b (K 0) (KR 0) ao ad i) [] 2601 := by
  obtain ⟨x1, e1⟩ : ∃ z : Int32, xs (i + 1) = z := ⟨_, rfl⟩
  refine zz_aload_n 2601 Z.1.1 1 dL_law_2601 rfl ?_
  refine zz_aload_n 2602 Z.1.1 0 dL_law_2602 rfl ?_
  refine zz_iload 2603 Z.1.1 5 dL_law_2603 rfl ?_
  refine zz_iconst 2605 Z.1.1 (v := nI 1) dL_law_2605 rfl ?_
  refine zz_iadd 2606 Z.1.1 (v := nI (i + 1)) dL_law_2606 (nI_add i 1) ?_
  refine lw_sld 2607 Z (j := i + 1) (by omega) e1 dL_law_2607 ?_
  refine zz_aload_n 2608 Z.1.1 3 dL_law_2608 rfl ?_
  obtain ⟨kc, rb, o', CU, RV, postR, hW, hR, hp, hq, hk, hv⟩ := pr_length l Z.2.2.1 D C cD K KR adK adV ao Z.2.2.2.2.2.1.1.1 Z.2.2.2.2.2.1.1.2 Z.2.2.2.2.2.1.aoD u v o hI x1
  refine lw_callW 2609 Z (na := 3) (As := [.int x1]) hW gL_law_L_length rfl ⟨rfl, rfl⟩ (by decide +kernel) ⟨Nat.le_of_ble_eq_true rfl, Nat.le_of_ble_eq_true rfl⟩ rfl rfl (Nat.le_of_ble_eq_true rfl) hcs dL_law_2609 ?_
  rintro r ⟨q1, q2⟩ ⟨er, eo, hC⟩
  replace eo : q2 = o' := eo
  replace hC : CU q1 := hC
  rw [er]
  refine zz_world (P' := (PL D C cD K KR ao ad q1 v q2 od)) (fun _ h => h) ?_
  refine zz_istore 2612 Z.1.1 (lv' := [(6, .int (nI kc)), (0, .ref b), (1, .ref (K 0)), (2, .ref (KR 0)), (3, .ref ao), (4, .ref ad), (5, .int (nI i))]) dL_law_2612 (by decide) rfl ?_
  refine zz_aload_n 2614 Z.1.1 3 dL_law_2614 rfl ?_
  refine zz_aload_n 2615 Z.1.1 1 dL_law_2615 rfl ?_
  refine zz_iload 2616 Z.1.1 6 dL_law_2616 rfl ?_
  refine zz_iconst 2618 Z.1.1 (v := nI 1) dL_law_2618 rfl ?_
  refine zz_iadd 2619 Z.1.1 (v := nI (i + 1)) dL_law_2619 (nI_add i 1) ?_
  refine lw_sld 2620 Z (j := i + 1) (by omega) e1 dL_law_2620 ?_
  refine lw_callRi 2621 Z (As := [.int x1]) hR gL_law_X7_length rfl ⟨rfl, rfl⟩ yd_X7_length ⟨Nat.le_of_ble_eq_true rfl, Nat.le_of_ble_eq_true rfl⟩ rfl rfl (Nat.le_of_ble_eq_true rfl) hcs dL_law_2621 ?_
  intro r2 w hw2
  obtain ⟨er2, hV⟩ := hp r2 w hw2
  rw [er2]
  have hIN := hq q1 w hC hV
  refine zz_istore 2624 Z.1.1 (lv' := [(7, .int rb), (6, .int (nI kc)), (0, .ref b), (1, .ref (K 0)), (2, .ref (KR 0)), (3, .ref ao), (4, .ref ad), (5, .int (nI i))]) dL_law_2624 (by decide) rfl ?_
  refine zz_aload_n 2626 Z.1.1 4 dL_law_2626 rfl ?_
  refine lw_callRi 2627 Z (As := []) (kt_X7_thrown l D C KR Z.2.2.2.2.2.1.1.2 w.1 w.2.1 w.2.2.1 w.2.2.2 kc hIN.1) gL_law_X7_thrown rfl ⟨rfl, rfl⟩ yd_X7_thrown ⟨Nat.le_of_ble_eq_true rfl, Nat.le_of_ble_eq_true rfl⟩ rfl rfl (Nat.le_of_ble_eq_true rfl) hcs dL_law_2627 ?_
  rintro r3 w3 ⟨er3, ew3⟩
  subst ew3
  rw [er3]
  refine zz_world (P' := (PL D C cD K KR ao ad q1 w q2 od)) (fun _ h => h) ?_
  refine zz_iload 2630 Z.1.1 1 dL_law_2630 rfl ?_
  refine zz_icmp_eq 2632 2637 Z.1.1 (nI_toInt (by omega)) (nI_toInt (by omega)) dL_law_2632 (by decide) (fun h => ?_) (fun h => ?_)
  · skip
    refine zz_iload 2637 Z.1.1 1 dL_law_2637 rfl ?_
    refine zz_if_ne 2639 2654 Z.1.1 (nI_toInt (by omega)) dL_law_2639 (by decide) (fun h0 => ?_) (fun h0 => ?_)
    · skip
      refine zz_goto 2654 3988 Z.1.1 dL_law_2654 (by decide) ?_
      refine zz_lvs [2, 3, 4, 5, 6, 7] rfl ?_
      exact kk q1 w q2 od _ _ hIN.2 (by omega) (by omega)
    · skip
      have hv0 := hv (by omega)
      rw [← eo] at hv0
      refine zz_aload_n 2642 Z.1.1 5 dL_law_2642 rfl ?_
      refine zz_iconst 2643 Z.1.1 (v := nI 0) dL_law_2643 rfl ?_
      refine lw_lld 2644 Z dL_law_2644 ?_
      refine zz_iload 2645 Z.1.1 0 dL_law_2645 rfl ?_
      refine zz_i2l 2647 Z.1.1 dL_law_2647 rfl ?_
      refine zz_lcmp 2648 Z.1.1 dL_law_2648 ?_
      refine zz_ifL_eq 2649 2654 Z.1.1 dL_law_2649 (by decide) (fun h => ?_) (fun h => ?_)
      · skip
        refine zz_goto 2654 3988 Z.1.1 dL_law_2654 (by decide) ?_
        refine zz_lvs [2, 3, 4, 5, 6, 7] rfl ?_
        exact kk q1 w q2 od _ _ hIN.2 (by omega) (by omega)
      · exact absurd (hv0) h
  · exact absurd rfl h

set_option maxHeartbeats 8000000 in
set_option maxRecDepth 100000 in
theorem cs_isEmpty {p : Program} {l : Launch} {e : Env} {s : State} {m : MethodId} {args : Array Value} {below : List Frame} {meth : Method} {c : Code} {Q : State → Prop} {D : va_G} {C : Nat → ClassId} {cD : ClassId} {K KR : Nat → Nat} {A : Nat → Prop} {adK adV : Nat → Nat} {ao ad b L : Nat} {xs : Nat → Int32} {u : CSt} {v : MSt} {o : Int64} {od : UInt64} {cells slots i : Nat} (Z : LCx p l s m args c meth A D C cD K KR adK adV ao ad b L xs) (hI : INV u v) (hi : i + 8 ≤ L) (hcs : cells + 1 ≤ room_1.cells ∧ slots + 6 ≤ room_1.slots) (kk : NXT p l e s m args below meth c Q A D C cD K KR ao ad b i cells slots) : ZZ p l e room_1 s m args below meth c cells slots Q A (PL D C cD K KR ao ad u v o od) 10 (lvL b (K 0) (KR 0) ao ad i) [] 2657 := by
  obtain ⟨x1, e1⟩ : ∃ z : Int32, xs (i + 1) = z := ⟨_, rfl⟩
  refine zz_aload_n 2657 Z.1.1 1 dL_law_2657 rfl ?_
  refine zz_aload_n 2658 Z.1.1 0 dL_law_2658 rfl ?_
  refine zz_iload 2659 Z.1.1 5 dL_law_2659 rfl ?_
  refine zz_iconst 2661 Z.1.1 (v := nI 1) dL_law_2661 rfl ?_
  refine zz_iadd 2662 Z.1.1 (v := nI (i + 1)) dL_law_2662 (nI_add i 1) ?_
  refine lw_sld 2663 Z (j := i + 1) (by omega) e1 dL_law_2663 ?_
  refine zz_aload_n 2664 Z.1.1 3 dL_law_2664 rfl ?_
  obtain ⟨kc, rb, o', CU, RV, postR, hW, hR, hp, hq, hk, hv⟩ := pr_isEmpty l Z.2.2.1 D C cD K KR adK adV ao Z.2.2.2.2.2.1.1.1 Z.2.2.2.2.2.1.1.2 Z.2.2.2.2.2.1.aoD u v o hI x1
  refine lw_callW 2665 Z (na := 3) (As := [.int x1]) hW gL_law_L_isEmpty rfl ⟨rfl, rfl⟩ (by decide +kernel) ⟨Nat.le_of_ble_eq_true rfl, Nat.le_of_ble_eq_true rfl⟩ rfl rfl (Nat.le_of_ble_eq_true rfl) hcs dL_law_2665 ?_
  rintro r ⟨q1, q2⟩ ⟨er, eo, hC⟩
  replace eo : q2 = o' := eo
  replace hC : CU q1 := hC
  rw [er]
  refine zz_world (P' := (PL D C cD K KR ao ad q1 v q2 od)) (fun _ h => h) ?_
  refine zz_istore 2668 Z.1.1 (lv' := [(6, .int (nI kc)), (0, .ref b), (1, .ref (K 0)), (2, .ref (KR 0)), (3, .ref ao), (4, .ref ad), (5, .int (nI i))]) dL_law_2668 (by decide) rfl ?_
  refine zz_aload_n 2670 Z.1.1 3 dL_law_2670 rfl ?_
  refine zz_aload_n 2671 Z.1.1 1 dL_law_2671 rfl ?_
  refine zz_iload 2672 Z.1.1 6 dL_law_2672 rfl ?_
  refine zz_iconst 2674 Z.1.1 (v := nI 1) dL_law_2674 rfl ?_
  refine zz_iadd 2675 Z.1.1 (v := nI (i + 1)) dL_law_2675 (nI_add i 1) ?_
  refine lw_sld 2676 Z (j := i + 1) (by omega) e1 dL_law_2676 ?_
  refine lw_callRi 2677 Z (As := [.int x1]) hR gL_law_X7_isEmpty rfl ⟨rfl, rfl⟩ yd_X7_isEmpty ⟨Nat.le_of_ble_eq_true rfl, Nat.le_of_ble_eq_true rfl⟩ rfl rfl (Nat.le_of_ble_eq_true rfl) hcs dL_law_2677 ?_
  intro r2 w hw2
  obtain ⟨er2, hV⟩ := hp r2 w hw2
  rw [er2]
  have hIN := hq q1 w hC hV
  refine zz_istore 2680 Z.1.1 (lv' := [(7, .int rb), (6, .int (nI kc)), (0, .ref b), (1, .ref (K 0)), (2, .ref (KR 0)), (3, .ref ao), (4, .ref ad), (5, .int (nI i))]) dL_law_2680 (by decide) rfl ?_
  refine zz_aload_n 2682 Z.1.1 4 dL_law_2682 rfl ?_
  refine lw_callRi 2683 Z (As := []) (kt_X7_thrown l D C KR Z.2.2.2.2.2.1.1.2 w.1 w.2.1 w.2.2.1 w.2.2.2 kc hIN.1) gL_law_X7_thrown rfl ⟨rfl, rfl⟩ yd_X7_thrown ⟨Nat.le_of_ble_eq_true rfl, Nat.le_of_ble_eq_true rfl⟩ rfl rfl (Nat.le_of_ble_eq_true rfl) hcs dL_law_2683 ?_
  rintro r3 w3 ⟨er3, ew3⟩
  subst ew3
  rw [er3]
  refine zz_world (P' := (PL D C cD K KR ao ad q1 w q2 od)) (fun _ h => h) ?_
  refine zz_iload 2686 Z.1.1 1 dL_law_2686 rfl ?_
  refine zz_icmp_eq 2688 2693 Z.1.1 (nI_toInt (by omega)) (nI_toInt (by omega)) dL_law_2688 (by decide) (fun h => ?_) (fun h => ?_)
  · skip
    refine zz_iload 2693 Z.1.1 1 dL_law_2693 rfl ?_
    refine zz_if_ne 2695 2717 Z.1.1 (nI_toInt (by omega)) dL_law_2695 (by decide) (fun h0 => ?_) (fun h0 => ?_)
    · skip
      refine zz_goto 2717 3988 Z.1.1 dL_law_2717 (by decide) ?_
      refine zz_lvs [2, 3, 4, 5, 6, 7] rfl ?_
      exact kk q1 w q2 od _ _ hIN.2 (by omega) (by omega)
    · skip
      have hv0 := hv (by omega)
      rw [← eo] at hv0
      refine zz_aload_n 2698 Z.1.1 5 dL_law_2698 rfl ?_
      refine zz_iconst 2699 Z.1.1 (v := nI 0) dL_law_2699 rfl ?_
      refine lw_lld 2700 Z dL_law_2700 ?_
      refine zz_iload 2701 Z.1.1 0 dL_law_2701 rfl ?_
      refine zz_if_eq 2703 2710 Z.1.1 rfl dL_law_2703 (by decide) (fun h7 => ?_) (fun h7 => ?_)
      · skip
        refine zz_lconst 2710 Z.1.1 (v := 0) dL_law_2710 (by decide) ?_
        refine zz_lcmp 2711 Z.1.1 dL_law_2711 ?_
        refine zz_ifL_eq 2712 2717 Z.1.1 dL_law_2712 (by decide) (fun h => ?_) (fun h => ?_)
        · skip
          refine zz_goto 2717 3988 Z.1.1 dL_law_2717 (by decide) ?_
          refine zz_lvs [2, 3, 4, 5, 6, 7] rfl ?_
          exact kk q1 w q2 od _ _ hIN.2 (by omega) (by omega)
        · exact absurd (hv0.trans (if_pos (i32_z h7))) h
      · skip
        refine zz_lconst 2706 Z.1.1 (v := 1) dL_law_2706 (by decide) ?_
        refine zz_goto 2707 2711 Z.1.1 dL_law_2707 (by decide) ?_
        refine zz_lcmp 2711 Z.1.1 dL_law_2711 ?_
        refine zz_ifL_eq 2712 2717 Z.1.1 dL_law_2712 (by decide) (fun h => ?_) (fun h => ?_)
        · skip
          refine zz_goto 2717 3988 Z.1.1 dL_law_2717 (by decide) ?_
          refine zz_lvs [2, 3, 4, 5, 6, 7] rfl ?_
          exact kk q1 w q2 od _ _ hIN.2 (by omega) (by omega)
        · exact absurd (hv0.trans (if_neg (fun z => h7 (by rw [z]; rfl)))) h
  · exact absurd rfl h

set_option maxHeartbeats 8000000 in
set_option maxRecDepth 100000 in
theorem cs_isRoomy {p : Program} {l : Launch} {e : Env} {s : State} {m : MethodId} {args : Array Value} {below : List Frame} {meth : Method} {c : Code} {Q : State → Prop} {D : va_G} {C : Nat → ClassId} {cD : ClassId} {K KR : Nat → Nat} {A : Nat → Prop} {adK adV : Nat → Nat} {ao ad b L : Nat} {xs : Nat → Int32} {u : CSt} {v : MSt} {o : Int64} {od : UInt64} {cells slots i : Nat} (Z : LCx p l s m args c meth A D C cD K KR adK adV ao ad b L xs) (hI : INV u v) (hi : i + 8 ≤ L) (hcs : cells + 1 ≤ room_1.cells ∧ slots + 6 ≤ room_1.slots) (kk : NXT p l e s m args below meth c Q A D C cD K KR ao ad b i cells slots) : ZZ p l e room_1 s m args below meth c cells slots Q A (PL D C cD K KR ao ad u v o od) 10 (lvL b (K 0) (KR 0) ao ad i) [] 2720 := by
  obtain ⟨x1, e1⟩ : ∃ z : Int32, xs (i + 1) = z := ⟨_, rfl⟩
  refine zz_aload_n 2720 Z.1.1 1 dL_law_2720 rfl ?_
  refine zz_aload_n 2721 Z.1.1 0 dL_law_2721 rfl ?_
  refine zz_iload 2722 Z.1.1 5 dL_law_2722 rfl ?_
  refine zz_iconst 2724 Z.1.1 (v := nI 1) dL_law_2724 rfl ?_
  refine zz_iadd 2725 Z.1.1 (v := nI (i + 1)) dL_law_2725 (nI_add i 1) ?_
  refine lw_sld 2726 Z (j := i + 1) (by omega) e1 dL_law_2726 ?_
  refine zz_aload_n 2727 Z.1.1 3 dL_law_2727 rfl ?_
  obtain ⟨kc, rb, o', CU, RV, postR, hW, hR, hp, hq, hk, hv⟩ := pr_isRoomy l Z.2.2.1 D C cD K KR adK adV ao Z.2.2.2.2.2.1.1.1 Z.2.2.2.2.2.1.1.2 Z.2.2.2.2.2.1.aoD u v o hI x1
  refine lw_callW 2728 Z (na := 3) (As := [.int x1]) hW gL_law_L_isRoomy rfl ⟨rfl, rfl⟩ (by decide +kernel) ⟨Nat.le_of_ble_eq_true rfl, Nat.le_of_ble_eq_true rfl⟩ rfl rfl (Nat.le_of_ble_eq_true rfl) hcs dL_law_2728 ?_
  rintro r ⟨q1, q2⟩ ⟨er, eo, hC⟩
  replace eo : q2 = o' := eo
  replace hC : CU q1 := hC
  rw [er]
  refine zz_world (P' := (PL D C cD K KR ao ad q1 v q2 od)) (fun _ h => h) ?_
  refine zz_istore 2731 Z.1.1 (lv' := [(6, .int (nI kc)), (0, .ref b), (1, .ref (K 0)), (2, .ref (KR 0)), (3, .ref ao), (4, .ref ad), (5, .int (nI i))]) dL_law_2731 (by decide) rfl ?_
  refine zz_aload_n 2733 Z.1.1 3 dL_law_2733 rfl ?_
  refine zz_aload_n 2734 Z.1.1 1 dL_law_2734 rfl ?_
  refine zz_iload 2735 Z.1.1 6 dL_law_2735 rfl ?_
  refine zz_iconst 2737 Z.1.1 (v := nI 1) dL_law_2737 rfl ?_
  refine zz_iadd 2738 Z.1.1 (v := nI (i + 1)) dL_law_2738 (nI_add i 1) ?_
  refine lw_sld 2739 Z (j := i + 1) (by omega) e1 dL_law_2739 ?_
  refine lw_callRi 2740 Z (As := [.int x1]) hR gL_law_X7_isRoomy rfl ⟨rfl, rfl⟩ yd_X7_isRoomy ⟨Nat.le_of_ble_eq_true rfl, Nat.le_of_ble_eq_true rfl⟩ rfl rfl (Nat.le_of_ble_eq_true rfl) hcs dL_law_2740 ?_
  intro r2 w hw2
  obtain ⟨er2, hV⟩ := hp r2 w hw2
  rw [er2]
  have hIN := hq q1 w hC hV
  refine zz_istore 2743 Z.1.1 (lv' := [(7, .int rb), (6, .int (nI kc)), (0, .ref b), (1, .ref (K 0)), (2, .ref (KR 0)), (3, .ref ao), (4, .ref ad), (5, .int (nI i))]) dL_law_2743 (by decide) rfl ?_
  refine zz_aload_n 2745 Z.1.1 4 dL_law_2745 rfl ?_
  refine lw_callRi 2746 Z (As := []) (kt_X7_thrown l D C KR Z.2.2.2.2.2.1.1.2 w.1 w.2.1 w.2.2.1 w.2.2.2 kc hIN.1) gL_law_X7_thrown rfl ⟨rfl, rfl⟩ yd_X7_thrown ⟨Nat.le_of_ble_eq_true rfl, Nat.le_of_ble_eq_true rfl⟩ rfl rfl (Nat.le_of_ble_eq_true rfl) hcs dL_law_2746 ?_
  rintro r3 w3 ⟨er3, ew3⟩
  subst ew3
  rw [er3]
  refine zz_world (P' := (PL D C cD K KR ao ad q1 w q2 od)) (fun _ h => h) ?_
  refine zz_iload 2749 Z.1.1 1 dL_law_2749 rfl ?_
  refine zz_icmp_eq 2751 2756 Z.1.1 (nI_toInt (by omega)) (nI_toInt (by omega)) dL_law_2751 (by decide) (fun h => ?_) (fun h => ?_)
  · skip
    refine zz_iload 2756 Z.1.1 1 dL_law_2756 rfl ?_
    refine zz_if_ne 2758 2780 Z.1.1 (nI_toInt (by omega)) dL_law_2758 (by decide) (fun h0 => ?_) (fun h0 => ?_)
    · skip
      refine zz_goto 2780 3988 Z.1.1 dL_law_2780 (by decide) ?_
      refine zz_lvs [2, 3, 4, 5, 6, 7] rfl ?_
      exact kk q1 w q2 od _ _ hIN.2 (by omega) (by omega)
    · skip
      have hv0 := hv (by omega)
      rw [← eo] at hv0
      refine zz_aload_n 2761 Z.1.1 5 dL_law_2761 rfl ?_
      refine zz_iconst 2762 Z.1.1 (v := nI 0) dL_law_2762 rfl ?_
      refine lw_lld 2763 Z dL_law_2763 ?_
      refine zz_iload 2764 Z.1.1 0 dL_law_2764 rfl ?_
      refine zz_if_eq 2766 2773 Z.1.1 rfl dL_law_2766 (by decide) (fun h7 => ?_) (fun h7 => ?_)
      · skip
        refine zz_lconst 2773 Z.1.1 (v := 0) dL_law_2773 (by decide) ?_
        refine zz_lcmp 2774 Z.1.1 dL_law_2774 ?_
        refine zz_ifL_eq 2775 2780 Z.1.1 dL_law_2775 (by decide) (fun h => ?_) (fun h => ?_)
        · skip
          refine zz_goto 2780 3988 Z.1.1 dL_law_2780 (by decide) ?_
          refine zz_lvs [2, 3, 4, 5, 6, 7] rfl ?_
          exact kk q1 w q2 od _ _ hIN.2 (by omega) (by omega)
        · exact absurd (hv0.trans (if_pos (i32_z h7))) h
      · skip
        refine zz_lconst 2769 Z.1.1 (v := 1) dL_law_2769 (by decide) ?_
        refine zz_goto 2770 2774 Z.1.1 dL_law_2770 (by decide) ?_
        refine zz_lcmp 2774 Z.1.1 dL_law_2774 ?_
        refine zz_ifL_eq 2775 2780 Z.1.1 dL_law_2775 (by decide) (fun h => ?_) (fun h => ?_)
        · skip
          refine zz_goto 2780 3988 Z.1.1 dL_law_2780 (by decide) ?_
          refine zz_lvs [2, 3, 4, 5, 6, 7] rfl ?_
          exact kk q1 w q2 od _ _ hIN.2 (by omega) (by omega)
        · exact absurd (hv0.trans (if_neg (fun z => h7 (by rw [z]; rfl)))) h
  · exact absurd rfl h

set_option maxHeartbeats 8000000 in
set_option maxRecDepth 100000 in
theorem cs_next {p : Program} {l : Launch} {e : Env} {s : State} {m : MethodId} {args : Array Value} {below : List Frame} {meth : Method} {c : Code} {Q : State → Prop} {D : va_G} {C : Nat → ClassId} {cD : ClassId} {K KR : Nat → Nat} {A : Nat → Prop} {adK adV : Nat → Nat} {ao ad b L : Nat} {xs : Nat → Int32} {u : CSt} {v : MSt} {o : Int64} {od : UInt64} {cells slots i : Nat} (Z : LCx p l s m args c meth A D C cD K KR adK adV ao ad b L xs) (hI : INV u v) (hi : i + 8 ≤ L) (hcs : cells + 1 ≤ room_1.cells ∧ slots + 6 ≤ room_1.slots) (kk : NXT p l e s m args below meth c Q A D C cD K KR ao ad b i cells slots) : ZZ p l e room_1 s m args below meth c cells slots Q A (PL D C cD K KR ao ad u v o od) 10 (lvL b (K 0) (KR 0) ao ad i) [] 2783 := by
  obtain ⟨x1, e1⟩ : ∃ z : Int32, xs (i + 1) = z := ⟨_, rfl⟩
  obtain ⟨x2, e2⟩ : ∃ z : Int32, xs (i + 2) = z := ⟨_, rfl⟩
  refine zz_aload_n 2783 Z.1.1 1 dL_law_2783 rfl ?_
  refine zz_aload_n 2784 Z.1.1 0 dL_law_2784 rfl ?_
  refine zz_iload 2785 Z.1.1 5 dL_law_2785 rfl ?_
  refine zz_iconst 2787 Z.1.1 (v := nI 1) dL_law_2787 rfl ?_
  refine zz_iadd 2788 Z.1.1 (v := nI (i + 1)) dL_law_2788 (nI_add i 1) ?_
  refine lw_sld 2789 Z (j := i + 1) (by omega) e1 dL_law_2789 ?_
  refine zz_aload_n 2790 Z.1.1 0 dL_law_2790 rfl ?_
  refine zz_iload 2791 Z.1.1 5 dL_law_2791 rfl ?_
  refine zz_iconst 2793 Z.1.1 (v := nI 2) dL_law_2793 rfl ?_
  refine zz_iadd 2794 Z.1.1 (v := nI (i + 2)) dL_law_2794 (nI_add i 2) ?_
  refine lw_sld 2795 Z (j := i + 2) (by omega) e2 dL_law_2795 ?_
  refine zz_aload_n 2796 Z.1.1 3 dL_law_2796 rfl ?_
  obtain ⟨kc, rb, o', CU, RV, postR, hW, hR, hp, hq, hk, hv⟩ := pr_next l Z.2.2.1 D C cD K KR adK adV ao Z.2.2.2.2.2.1.1.1 Z.2.2.2.2.2.1.1.2 Z.2.2.2.2.2.1.aoD u v o hI x1 x2
  refine lw_callW 2797 Z (na := 4) (As := [.int x1, .int x2]) hW gL_law_L_next rfl ⟨rfl, rfl⟩ (by decide +kernel) ⟨Nat.le_of_ble_eq_true rfl, Nat.le_of_ble_eq_true rfl⟩ rfl rfl (Nat.le_of_ble_eq_true rfl) hcs dL_law_2797 ?_
  rintro r ⟨q1, q2⟩ ⟨er, eo, hC⟩
  replace eo : q2 = o' := eo
  replace hC : CU q1 := hC
  rw [er]
  refine zz_world (P' := (PL D C cD K KR ao ad q1 v q2 od)) (fun _ h => h) ?_
  refine zz_istore 2800 Z.1.1 (lv' := [(6, .int (nI kc)), (0, .ref b), (1, .ref (K 0)), (2, .ref (KR 0)), (3, .ref ao), (4, .ref ad), (5, .int (nI i))]) dL_law_2800 (by decide) rfl ?_
  refine zz_aload_n 2802 Z.1.1 3 dL_law_2802 rfl ?_
  refine zz_aload_n 2803 Z.1.1 1 dL_law_2803 rfl ?_
  refine zz_iload 2804 Z.1.1 6 dL_law_2804 rfl ?_
  refine zz_iconst 2806 Z.1.1 (v := nI 1) dL_law_2806 rfl ?_
  refine zz_iadd 2807 Z.1.1 (v := nI (i + 1)) dL_law_2807 (nI_add i 1) ?_
  refine lw_sld 2808 Z (j := i + 1) (by omega) e1 dL_law_2808 ?_
  refine zz_aload_n 2809 Z.1.1 1 dL_law_2809 rfl ?_
  refine zz_iload 2810 Z.1.1 6 dL_law_2810 rfl ?_
  refine zz_iconst 2812 Z.1.1 (v := nI 2) dL_law_2812 rfl ?_
  refine zz_iadd 2813 Z.1.1 (v := nI (i + 2)) dL_law_2813 (nI_add i 2) ?_
  refine lw_sld 2814 Z (j := i + 2) (by omega) e2 dL_law_2814 ?_
  refine lw_callRi 2815 Z (As := [.int x1, .int x2]) hR gL_law_X7_next rfl ⟨rfl, rfl⟩ yd_X7_next ⟨Nat.le_of_ble_eq_true rfl, Nat.le_of_ble_eq_true rfl⟩ rfl rfl (Nat.le_of_ble_eq_true rfl) hcs dL_law_2815 ?_
  intro r2 w hw2
  obtain ⟨er2, hV⟩ := hp r2 w hw2
  rw [er2]
  have hIN := hq q1 w hC hV
  refine zz_istore 2818 Z.1.1 (lv' := [(7, .int rb), (6, .int (nI kc)), (0, .ref b), (1, .ref (K 0)), (2, .ref (KR 0)), (3, .ref ao), (4, .ref ad), (5, .int (nI i))]) dL_law_2818 (by decide) rfl ?_
  refine zz_aload_n 2820 Z.1.1 4 dL_law_2820 rfl ?_
  refine lw_callRi 2821 Z (As := []) (kt_X7_thrown l D C KR Z.2.2.2.2.2.1.1.2 w.1 w.2.1 w.2.2.1 w.2.2.2 kc hIN.1) gL_law_X7_thrown rfl ⟨rfl, rfl⟩ yd_X7_thrown ⟨Nat.le_of_ble_eq_true rfl, Nat.le_of_ble_eq_true rfl⟩ rfl rfl (Nat.le_of_ble_eq_true rfl) hcs dL_law_2821 ?_
  rintro r3 w3 ⟨er3, ew3⟩
  subst ew3
  rw [er3]
  refine zz_world (P' := (PL D C cD K KR ao ad q1 w q2 od)) (fun _ h => h) ?_
  refine zz_iload 2824 Z.1.1 1 dL_law_2824 rfl ?_
  refine zz_icmp_eq 2826 2831 Z.1.1 (nI_toInt (by omega)) (nI_toInt (by omega)) dL_law_2826 (by decide) (fun h => ?_) (fun h => ?_)
  · skip
    refine zz_iload 2831 Z.1.1 1 dL_law_2831 rfl ?_
    refine zz_if_ne 2833 2848 Z.1.1 (nI_toInt (by omega)) dL_law_2833 (by decide) (fun h0 => ?_) (fun h0 => ?_)
    · skip
      refine zz_goto 2848 3988 Z.1.1 dL_law_2848 (by decide) ?_
      refine zz_lvs [2, 3, 4, 5, 6, 7] rfl ?_
      exact kk q1 w q2 od _ _ hIN.2 (by omega) (by omega)
    · skip
      have hv0 := hv (by omega)
      rw [← eo] at hv0
      refine zz_aload_n 2836 Z.1.1 5 dL_law_2836 rfl ?_
      refine zz_iconst 2837 Z.1.1 (v := nI 0) dL_law_2837 rfl ?_
      refine lw_lld 2838 Z dL_law_2838 ?_
      refine zz_iload 2839 Z.1.1 0 dL_law_2839 rfl ?_
      refine zz_i2l 2841 Z.1.1 dL_law_2841 rfl ?_
      refine zz_lcmp 2842 Z.1.1 dL_law_2842 ?_
      refine zz_ifL_eq 2843 2848 Z.1.1 dL_law_2843 (by decide) (fun h => ?_) (fun h => ?_)
      · skip
        refine zz_goto 2848 3988 Z.1.1 dL_law_2848 (by decide) ?_
        refine zz_lvs [2, 3, 4, 5, 6, 7] rfl ?_
        exact kk q1 w q2 od _ _ hIN.2 (by omega) (by omega)
      · exact absurd (hv0) h
  · exact absurd rfl h

set_option maxHeartbeats 8000000 in
set_option maxRecDepth 100000 in
theorem cs_nextMissing {p : Program} {l : Launch} {e : Env} {s : State} {m : MethodId} {args : Array Value} {below : List Frame} {meth : Method} {c : Code} {Q : State → Prop} {D : va_G} {C : Nat → ClassId} {cD : ClassId} {K KR : Nat → Nat} {A : Nat → Prop} {adK adV : Nat → Nat} {ao ad b L : Nat} {xs : Nat → Int32} {u : CSt} {v : MSt} {o : Int64} {od : UInt64} {cells slots i : Nat} (Z : LCx p l s m args c meth A D C cD K KR adK adV ao ad b L xs) (hI : INV u v) (hi : i + 8 ≤ L) (hcs : cells + 1 ≤ room_1.cells ∧ slots + 6 ≤ room_1.slots) (kk : NXT p l e s m args below meth c Q A D C cD K KR ao ad b i cells slots) : ZZ p l e room_1 s m args below meth c cells slots Q A (PL D C cD K KR ao ad u v o od) 10 (lvL b (K 0) (KR 0) ao ad i) [] 2851 := by
  obtain ⟨x1, e1⟩ : ∃ z : Int32, xs (i + 1) = z := ⟨_, rfl⟩
  obtain ⟨x2, e2⟩ : ∃ z : Int32, xs (i + 2) = z := ⟨_, rfl⟩
  refine zz_aload_n 2851 Z.1.1 1 dL_law_2851 rfl ?_
  refine zz_aload_n 2852 Z.1.1 0 dL_law_2852 rfl ?_
  refine zz_iload 2853 Z.1.1 5 dL_law_2853 rfl ?_
  refine zz_iconst 2855 Z.1.1 (v := nI 1) dL_law_2855 rfl ?_
  refine zz_iadd 2856 Z.1.1 (v := nI (i + 1)) dL_law_2856 (nI_add i 1) ?_
  refine lw_sld 2857 Z (j := i + 1) (by omega) e1 dL_law_2857 ?_
  refine zz_aload_n 2858 Z.1.1 0 dL_law_2858 rfl ?_
  refine zz_iload 2859 Z.1.1 5 dL_law_2859 rfl ?_
  refine zz_iconst 2861 Z.1.1 (v := nI 2) dL_law_2861 rfl ?_
  refine zz_iadd 2862 Z.1.1 (v := nI (i + 2)) dL_law_2862 (nI_add i 2) ?_
  refine lw_sld 2863 Z (j := i + 2) (by omega) e2 dL_law_2863 ?_
  refine zz_aload_n 2864 Z.1.1 3 dL_law_2864 rfl ?_
  obtain ⟨kc, rb, o', CU, RV, postR, hW, hR, hp, hq, hk, hv⟩ := pr_nextMissing l Z.2.2.1 D C cD K KR adK adV ao Z.2.2.2.2.2.1.1.1 Z.2.2.2.2.2.1.1.2 Z.2.2.2.2.2.1.aoD u v o hI x1 x2
  refine lw_callW 2865 Z (na := 4) (As := [.int x1, .int x2]) hW gL_law_L_nextMissing rfl ⟨rfl, rfl⟩ (by decide +kernel) ⟨Nat.le_of_ble_eq_true rfl, Nat.le_of_ble_eq_true rfl⟩ rfl rfl (Nat.le_of_ble_eq_true rfl) hcs dL_law_2865 ?_
  rintro r ⟨q1, q2⟩ ⟨er, eo, hC⟩
  replace eo : q2 = o' := eo
  replace hC : CU q1 := hC
  rw [er]
  refine zz_world (P' := (PL D C cD K KR ao ad q1 v q2 od)) (fun _ h => h) ?_
  refine zz_istore 2868 Z.1.1 (lv' := [(6, .int (nI kc)), (0, .ref b), (1, .ref (K 0)), (2, .ref (KR 0)), (3, .ref ao), (4, .ref ad), (5, .int (nI i))]) dL_law_2868 (by decide) rfl ?_
  refine zz_aload_n 2870 Z.1.1 3 dL_law_2870 rfl ?_
  refine zz_aload_n 2871 Z.1.1 1 dL_law_2871 rfl ?_
  refine zz_iload 2872 Z.1.1 6 dL_law_2872 rfl ?_
  refine zz_iconst 2874 Z.1.1 (v := nI 1) dL_law_2874 rfl ?_
  refine zz_iadd 2875 Z.1.1 (v := nI (i + 1)) dL_law_2875 (nI_add i 1) ?_
  refine lw_sld 2876 Z (j := i + 1) (by omega) e1 dL_law_2876 ?_
  refine zz_aload_n 2877 Z.1.1 1 dL_law_2877 rfl ?_
  refine zz_iload 2878 Z.1.1 6 dL_law_2878 rfl ?_
  refine zz_iconst 2880 Z.1.1 (v := nI 2) dL_law_2880 rfl ?_
  refine zz_iadd 2881 Z.1.1 (v := nI (i + 2)) dL_law_2881 (nI_add i 2) ?_
  refine lw_sld 2882 Z (j := i + 2) (by omega) e2 dL_law_2882 ?_
  refine lw_callRi 2883 Z (As := [.int x1, .int x2]) hR gL_law_X7_nextMissing rfl ⟨rfl, rfl⟩ yd_X7_nextMissing ⟨Nat.le_of_ble_eq_true rfl, Nat.le_of_ble_eq_true rfl⟩ rfl rfl (Nat.le_of_ble_eq_true rfl) hcs dL_law_2883 ?_
  intro r2 w hw2
  obtain ⟨er2, hV⟩ := hp r2 w hw2
  rw [er2]
  have hIN := hq q1 w hC hV
  refine zz_istore 2886 Z.1.1 (lv' := [(7, .int rb), (6, .int (nI kc)), (0, .ref b), (1, .ref (K 0)), (2, .ref (KR 0)), (3, .ref ao), (4, .ref ad), (5, .int (nI i))]) dL_law_2886 (by decide) rfl ?_
  refine zz_aload_n 2888 Z.1.1 4 dL_law_2888 rfl ?_
  refine lw_callRi 2889 Z (As := []) (kt_X7_thrown l D C KR Z.2.2.2.2.2.1.1.2 w.1 w.2.1 w.2.2.1 w.2.2.2 kc hIN.1) gL_law_X7_thrown rfl ⟨rfl, rfl⟩ yd_X7_thrown ⟨Nat.le_of_ble_eq_true rfl, Nat.le_of_ble_eq_true rfl⟩ rfl rfl (Nat.le_of_ble_eq_true rfl) hcs dL_law_2889 ?_
  rintro r3 w3 ⟨er3, ew3⟩
  subst ew3
  rw [er3]
  refine zz_world (P' := (PL D C cD K KR ao ad q1 w q2 od)) (fun _ h => h) ?_
  refine zz_iload 2892 Z.1.1 1 dL_law_2892 rfl ?_
  refine zz_icmp_eq 2894 2899 Z.1.1 (nI_toInt (by omega)) (nI_toInt (by omega)) dL_law_2894 (by decide) (fun h => ?_) (fun h => ?_)
  · skip
    refine zz_iload 2899 Z.1.1 1 dL_law_2899 rfl ?_
    refine zz_if_ne 2901 2916 Z.1.1 (nI_toInt (by omega)) dL_law_2901 (by decide) (fun h0 => ?_) (fun h0 => ?_)
    · skip
      refine zz_goto 2916 3988 Z.1.1 dL_law_2916 (by decide) ?_
      refine zz_lvs [2, 3, 4, 5, 6, 7] rfl ?_
      exact kk q1 w q2 od _ _ hIN.2 (by omega) (by omega)
    · skip
      have hv0 := hv (by omega)
      rw [← eo] at hv0
      refine zz_aload_n 2904 Z.1.1 5 dL_law_2904 rfl ?_
      refine zz_iconst 2905 Z.1.1 (v := nI 0) dL_law_2905 rfl ?_
      refine lw_lld 2906 Z dL_law_2906 ?_
      refine zz_iload 2907 Z.1.1 0 dL_law_2907 rfl ?_
      refine zz_i2l 2909 Z.1.1 dL_law_2909 rfl ?_
      refine zz_lcmp 2910 Z.1.1 dL_law_2910 ?_
      refine zz_ifL_eq 2911 2916 Z.1.1 dL_law_2911 (by decide) (fun h => ?_) (fun h => ?_)
      · skip
        refine zz_goto 2916 3988 Z.1.1 dL_law_2916 (by decide) ?_
        refine zz_lvs [2, 3, 4, 5, 6, 7] rfl ?_
        exact kk q1 w q2 od _ _ hIN.2 (by omega) (by omega)
      · exact absurd (hv0) h
  · exact absurd rfl h

set_option maxHeartbeats 8000000 in
set_option maxRecDepth 100000 in
theorem cs_previous {p : Program} {l : Launch} {e : Env} {s : State} {m : MethodId} {args : Array Value} {below : List Frame} {meth : Method} {c : Code} {Q : State → Prop} {D : va_G} {C : Nat → ClassId} {cD : ClassId} {K KR : Nat → Nat} {A : Nat → Prop} {adK adV : Nat → Nat} {ao ad b L : Nat} {xs : Nat → Int32} {u : CSt} {v : MSt} {o : Int64} {od : UInt64} {cells slots i : Nat} (Z : LCx p l s m args c meth A D C cD K KR adK adV ao ad b L xs) (hI : INV u v) (hi : i + 8 ≤ L) (hcs : cells + 1 ≤ room_1.cells ∧ slots + 6 ≤ room_1.slots) (kk : NXT p l e s m args below meth c Q A D C cD K KR ao ad b i cells slots) : ZZ p l e room_1 s m args below meth c cells slots Q A (PL D C cD K KR ao ad u v o od) 10 (lvL b (K 0) (KR 0) ao ad i) [] 2919 := by
  obtain ⟨x1, e1⟩ : ∃ z : Int32, xs (i + 1) = z := ⟨_, rfl⟩
  obtain ⟨x2, e2⟩ : ∃ z : Int32, xs (i + 2) = z := ⟨_, rfl⟩
  refine zz_aload_n 2919 Z.1.1 1 dL_law_2919 rfl ?_
  refine zz_aload_n 2920 Z.1.1 0 dL_law_2920 rfl ?_
  refine zz_iload 2921 Z.1.1 5 dL_law_2921 rfl ?_
  refine zz_iconst 2923 Z.1.1 (v := nI 1) dL_law_2923 rfl ?_
  refine zz_iadd 2924 Z.1.1 (v := nI (i + 1)) dL_law_2924 (nI_add i 1) ?_
  refine lw_sld 2925 Z (j := i + 1) (by omega) e1 dL_law_2925 ?_
  refine zz_aload_n 2926 Z.1.1 0 dL_law_2926 rfl ?_
  refine zz_iload 2927 Z.1.1 5 dL_law_2927 rfl ?_
  refine zz_iconst 2929 Z.1.1 (v := nI 2) dL_law_2929 rfl ?_
  refine zz_iadd 2930 Z.1.1 (v := nI (i + 2)) dL_law_2930 (nI_add i 2) ?_
  refine lw_sld 2931 Z (j := i + 2) (by omega) e2 dL_law_2931 ?_
  refine zz_aload_n 2932 Z.1.1 3 dL_law_2932 rfl ?_
  obtain ⟨kc, rb, o', CU, RV, postR, hW, hR, hp, hq, hk, hv⟩ := pr_previous l Z.2.2.1 D C cD K KR adK adV ao Z.2.2.2.2.2.1.1.1 Z.2.2.2.2.2.1.1.2 Z.2.2.2.2.2.1.aoD u v o hI x1 x2
  refine lw_callW 2933 Z (na := 4) (As := [.int x1, .int x2]) hW gL_law_L_previous rfl ⟨rfl, rfl⟩ (by decide +kernel) ⟨Nat.le_of_ble_eq_true rfl, Nat.le_of_ble_eq_true rfl⟩ rfl rfl (Nat.le_of_ble_eq_true rfl) hcs dL_law_2933 ?_
  rintro r ⟨q1, q2⟩ ⟨er, eo, hC⟩
  replace eo : q2 = o' := eo
  replace hC : CU q1 := hC
  rw [er]
  refine zz_world (P' := (PL D C cD K KR ao ad q1 v q2 od)) (fun _ h => h) ?_
  refine zz_istore 2936 Z.1.1 (lv' := [(6, .int (nI kc)), (0, .ref b), (1, .ref (K 0)), (2, .ref (KR 0)), (3, .ref ao), (4, .ref ad), (5, .int (nI i))]) dL_law_2936 (by decide) rfl ?_
  refine zz_aload_n 2938 Z.1.1 3 dL_law_2938 rfl ?_
  refine zz_aload_n 2939 Z.1.1 1 dL_law_2939 rfl ?_
  refine zz_iload 2940 Z.1.1 6 dL_law_2940 rfl ?_
  refine zz_iconst 2942 Z.1.1 (v := nI 1) dL_law_2942 rfl ?_
  refine zz_iadd 2943 Z.1.1 (v := nI (i + 1)) dL_law_2943 (nI_add i 1) ?_
  refine lw_sld 2944 Z (j := i + 1) (by omega) e1 dL_law_2944 ?_
  refine zz_aload_n 2945 Z.1.1 1 dL_law_2945 rfl ?_
  refine zz_iload 2946 Z.1.1 6 dL_law_2946 rfl ?_
  refine zz_iconst 2948 Z.1.1 (v := nI 2) dL_law_2948 rfl ?_
  refine zz_iadd 2949 Z.1.1 (v := nI (i + 2)) dL_law_2949 (nI_add i 2) ?_
  refine lw_sld 2950 Z (j := i + 2) (by omega) e2 dL_law_2950 ?_
  refine lw_callRi 2951 Z (As := [.int x1, .int x2]) hR gL_law_X7_previous rfl ⟨rfl, rfl⟩ yd_X7_previous ⟨Nat.le_of_ble_eq_true rfl, Nat.le_of_ble_eq_true rfl⟩ rfl rfl (Nat.le_of_ble_eq_true rfl) hcs dL_law_2951 ?_
  intro r2 w hw2
  obtain ⟨er2, hV⟩ := hp r2 w hw2
  rw [er2]
  have hIN := hq q1 w hC hV
  refine zz_istore 2954 Z.1.1 (lv' := [(7, .int rb), (6, .int (nI kc)), (0, .ref b), (1, .ref (K 0)), (2, .ref (KR 0)), (3, .ref ao), (4, .ref ad), (5, .int (nI i))]) dL_law_2954 (by decide) rfl ?_
  refine zz_aload_n 2956 Z.1.1 4 dL_law_2956 rfl ?_
  refine lw_callRi 2957 Z (As := []) (kt_X7_thrown l D C KR Z.2.2.2.2.2.1.1.2 w.1 w.2.1 w.2.2.1 w.2.2.2 kc hIN.1) gL_law_X7_thrown rfl ⟨rfl, rfl⟩ yd_X7_thrown ⟨Nat.le_of_ble_eq_true rfl, Nat.le_of_ble_eq_true rfl⟩ rfl rfl (Nat.le_of_ble_eq_true rfl) hcs dL_law_2957 ?_
  rintro r3 w3 ⟨er3, ew3⟩
  subst ew3
  rw [er3]
  refine zz_world (P' := (PL D C cD K KR ao ad q1 w q2 od)) (fun _ h => h) ?_
  refine zz_iload 2960 Z.1.1 1 dL_law_2960 rfl ?_
  refine zz_icmp_eq 2962 2967 Z.1.1 (nI_toInt (by omega)) (nI_toInt (by omega)) dL_law_2962 (by decide) (fun h => ?_) (fun h => ?_)
  · skip
    refine zz_iload 2967 Z.1.1 1 dL_law_2967 rfl ?_
    refine zz_if_ne 2969 2984 Z.1.1 (nI_toInt (by omega)) dL_law_2969 (by decide) (fun h0 => ?_) (fun h0 => ?_)
    · skip
      refine zz_goto 2984 3988 Z.1.1 dL_law_2984 (by decide) ?_
      refine zz_lvs [2, 3, 4, 5, 6, 7] rfl ?_
      exact kk q1 w q2 od _ _ hIN.2 (by omega) (by omega)
    · skip
      have hv0 := hv (by omega)
      rw [← eo] at hv0
      refine zz_aload_n 2972 Z.1.1 5 dL_law_2972 rfl ?_
      refine zz_iconst 2973 Z.1.1 (v := nI 0) dL_law_2973 rfl ?_
      refine lw_lld 2974 Z dL_law_2974 ?_
      refine zz_iload 2975 Z.1.1 0 dL_law_2975 rfl ?_
      refine zz_i2l 2977 Z.1.1 dL_law_2977 rfl ?_
      refine zz_lcmp 2978 Z.1.1 dL_law_2978 ?_
      refine zz_ifL_eq 2979 2984 Z.1.1 dL_law_2979 (by decide) (fun h => ?_) (fun h => ?_)
      · skip
        refine zz_goto 2984 3988 Z.1.1 dL_law_2984 (by decide) ?_
        refine zz_lvs [2, 3, 4, 5, 6, 7] rfl ?_
        exact kk q1 w q2 od _ _ hIN.2 (by omega) (by omega)
      · exact absurd (hv0) h
  · exact absurd rfl h

set_option maxHeartbeats 8000000 in
set_option maxRecDepth 100000 in
theorem cs_previousMissing {p : Program} {l : Launch} {e : Env} {s : State} {m : MethodId} {args : Array Value} {below : List Frame} {meth : Method} {c : Code} {Q : State → Prop} {D : va_G} {C : Nat → ClassId} {cD : ClassId} {K KR : Nat → Nat} {A : Nat → Prop} {adK adV : Nat → Nat} {ao ad b L : Nat} {xs : Nat → Int32} {u : CSt} {v : MSt} {o : Int64} {od : UInt64} {cells slots i : Nat} (Z : LCx p l s m args c meth A D C cD K KR adK adV ao ad b L xs) (hI : INV u v) (hi : i + 8 ≤ L) (hcs : cells + 1 ≤ room_1.cells ∧ slots + 6 ≤ room_1.slots) (kk : NXT p l e s m args below meth c Q A D C cD K KR ao ad b i cells slots) : ZZ p l e room_1 s m args below meth c cells slots Q A (PL D C cD K KR ao ad u v o od) 10 (lvL b (K 0) (KR 0) ao ad i) [] 2987 := by
  obtain ⟨x1, e1⟩ : ∃ z : Int32, xs (i + 1) = z := ⟨_, rfl⟩
  obtain ⟨x2, e2⟩ : ∃ z : Int32, xs (i + 2) = z := ⟨_, rfl⟩
  refine zz_aload_n 2987 Z.1.1 1 dL_law_2987 rfl ?_
  refine zz_aload_n 2988 Z.1.1 0 dL_law_2988 rfl ?_
  refine zz_iload 2989 Z.1.1 5 dL_law_2989 rfl ?_
  refine zz_iconst 2991 Z.1.1 (v := nI 1) dL_law_2991 rfl ?_
  refine zz_iadd 2992 Z.1.1 (v := nI (i + 1)) dL_law_2992 (nI_add i 1) ?_
  refine lw_sld 2993 Z (j := i + 1) (by omega) e1 dL_law_2993 ?_
  refine zz_aload_n 2994 Z.1.1 0 dL_law_2994 rfl ?_
  refine zz_iload 2995 Z.1.1 5 dL_law_2995 rfl ?_
  refine zz_iconst 2997 Z.1.1 (v := nI 2) dL_law_2997 rfl ?_
  refine zz_iadd 2998 Z.1.1 (v := nI (i + 2)) dL_law_2998 (nI_add i 2) ?_
  refine lw_sld 2999 Z (j := i + 2) (by omega) e2 dL_law_2999 ?_
  refine zz_aload_n 3000 Z.1.1 3 dL_law_3000 rfl ?_
  obtain ⟨kc, rb, o', CU, RV, postR, hW, hR, hp, hq, hk, hv⟩ := pr_previousMissing l Z.2.2.1 D C cD K KR adK adV ao Z.2.2.2.2.2.1.1.1 Z.2.2.2.2.2.1.1.2 Z.2.2.2.2.2.1.aoD u v o hI x1 x2
  refine lw_callW 3001 Z (na := 4) (As := [.int x1, .int x2]) hW gL_law_L_previousMissing rfl ⟨rfl, rfl⟩ (by decide +kernel) ⟨Nat.le_of_ble_eq_true rfl, Nat.le_of_ble_eq_true rfl⟩ rfl rfl (Nat.le_of_ble_eq_true rfl) hcs dL_law_3001 ?_
  rintro r ⟨q1, q2⟩ ⟨er, eo, hC⟩
  replace eo : q2 = o' := eo
  replace hC : CU q1 := hC
  rw [er]
  refine zz_world (P' := (PL D C cD K KR ao ad q1 v q2 od)) (fun _ h => h) ?_
  refine zz_istore 3004 Z.1.1 (lv' := [(6, .int (nI kc)), (0, .ref b), (1, .ref (K 0)), (2, .ref (KR 0)), (3, .ref ao), (4, .ref ad), (5, .int (nI i))]) dL_law_3004 (by decide) rfl ?_
  refine zz_aload_n 3006 Z.1.1 3 dL_law_3006 rfl ?_
  refine zz_aload_n 3007 Z.1.1 1 dL_law_3007 rfl ?_
  refine zz_iload 3008 Z.1.1 6 dL_law_3008 rfl ?_
  refine zz_iconst 3010 Z.1.1 (v := nI 1) dL_law_3010 rfl ?_
  refine zz_iadd 3011 Z.1.1 (v := nI (i + 1)) dL_law_3011 (nI_add i 1) ?_
  refine lw_sld 3012 Z (j := i + 1) (by omega) e1 dL_law_3012 ?_
  refine zz_aload_n 3013 Z.1.1 1 dL_law_3013 rfl ?_
  refine zz_iload 3014 Z.1.1 6 dL_law_3014 rfl ?_
  refine zz_iconst 3016 Z.1.1 (v := nI 2) dL_law_3016 rfl ?_
  refine zz_iadd 3017 Z.1.1 (v := nI (i + 2)) dL_law_3017 (nI_add i 2) ?_
  refine lw_sld 3018 Z (j := i + 2) (by omega) e2 dL_law_3018 ?_
  refine lw_callRi 3019 Z (As := [.int x1, .int x2]) hR gL_law_X7_previousMissing rfl ⟨rfl, rfl⟩ yd_X7_previousMissing ⟨Nat.le_of_ble_eq_true rfl, Nat.le_of_ble_eq_true rfl⟩ rfl rfl (Nat.le_of_ble_eq_true rfl) hcs dL_law_3019 ?_
  intro r2 w hw2
  obtain ⟨er2, hV⟩ := hp r2 w hw2
  rw [er2]
  have hIN := hq q1 w hC hV
  refine zz_istore 3022 Z.1.1 (lv' := [(7, .int rb), (6, .int (nI kc)), (0, .ref b), (1, .ref (K 0)), (2, .ref (KR 0)), (3, .ref ao), (4, .ref ad), (5, .int (nI i))]) dL_law_3022 (by decide) rfl ?_
  refine zz_aload_n 3024 Z.1.1 4 dL_law_3024 rfl ?_
  refine lw_callRi 3025 Z (As := []) (kt_X7_thrown l D C KR Z.2.2.2.2.2.1.1.2 w.1 w.2.1 w.2.2.1 w.2.2.2 kc hIN.1) gL_law_X7_thrown rfl ⟨rfl, rfl⟩ yd_X7_thrown ⟨Nat.le_of_ble_eq_true rfl, Nat.le_of_ble_eq_true rfl⟩ rfl rfl (Nat.le_of_ble_eq_true rfl) hcs dL_law_3025 ?_
  rintro r3 w3 ⟨er3, ew3⟩
  subst ew3
  rw [er3]
  refine zz_world (P' := (PL D C cD K KR ao ad q1 w q2 od)) (fun _ h => h) ?_
  refine zz_iload 3028 Z.1.1 1 dL_law_3028 rfl ?_
  refine zz_icmp_eq 3030 3035 Z.1.1 (nI_toInt (by omega)) (nI_toInt (by omega)) dL_law_3030 (by decide) (fun h => ?_) (fun h => ?_)
  · skip
    refine zz_iload 3035 Z.1.1 1 dL_law_3035 rfl ?_
    refine zz_if_ne 3037 3052 Z.1.1 (nI_toInt (by omega)) dL_law_3037 (by decide) (fun h0 => ?_) (fun h0 => ?_)
    · skip
      refine zz_goto 3052 3988 Z.1.1 dL_law_3052 (by decide) ?_
      refine zz_lvs [2, 3, 4, 5, 6, 7] rfl ?_
      exact kk q1 w q2 od _ _ hIN.2 (by omega) (by omega)
    · skip
      have hv0 := hv (by omega)
      rw [← eo] at hv0
      refine zz_aload_n 3040 Z.1.1 5 dL_law_3040 rfl ?_
      refine zz_iconst 3041 Z.1.1 (v := nI 0) dL_law_3041 rfl ?_
      refine lw_lld 3042 Z dL_law_3042 ?_
      refine zz_iload 3043 Z.1.1 0 dL_law_3043 rfl ?_
      refine zz_i2l 3045 Z.1.1 dL_law_3045 rfl ?_
      refine zz_lcmp 3046 Z.1.1 dL_law_3046 ?_
      refine zz_ifL_eq 3047 3052 Z.1.1 dL_law_3047 (by decide) (fun h => ?_) (fun h => ?_)
      · skip
        refine zz_goto 3052 3988 Z.1.1 dL_law_3052 (by decide) ?_
        refine zz_lvs [2, 3, 4, 5, 6, 7] rfl ?_
        exact kk q1 w q2 od _ _ hIN.2 (by omega) (by omega)
      · exact absurd (hv0) h
  · exact absurd rfl h

set_option maxHeartbeats 8000000 in
set_option maxRecDepth 100000 in
theorem cs_memberAt {p : Program} {l : Launch} {e : Env} {s : State} {m : MethodId} {args : Array Value} {below : List Frame} {meth : Method} {c : Code} {Q : State → Prop} {D : va_G} {C : Nat → ClassId} {cD : ClassId} {K KR : Nat → Nat} {A : Nat → Prop} {adK adV : Nat → Nat} {ao ad b L : Nat} {xs : Nat → Int32} {u : CSt} {v : MSt} {o : Int64} {od : UInt64} {cells slots i : Nat} (Z : LCx p l s m args c meth A D C cD K KR adK adV ao ad b L xs) (hI : INV u v) (hi : i + 8 ≤ L) (hcs : cells + 1 ≤ room_1.cells ∧ slots + 6 ≤ room_1.slots) (kk : NXT p l e s m args below meth c Q A D C cD K KR ao ad b i cells slots) : ZZ p l e room_1 s m args below meth c cells slots Q A (PL D C cD K KR ao ad u v o od) 10 (lvL b (K 0) (KR 0) ao ad i) [] 3055 := by
  obtain ⟨x1, e1⟩ : ∃ z : Int32, xs (i + 1) = z := ⟨_, rfl⟩
  obtain ⟨x2, e2⟩ : ∃ z : Int32, xs (i + 2) = z := ⟨_, rfl⟩
  refine zz_aload_n 3055 Z.1.1 1 dL_law_3055 rfl ?_
  refine zz_aload_n 3056 Z.1.1 0 dL_law_3056 rfl ?_
  refine zz_iload 3057 Z.1.1 5 dL_law_3057 rfl ?_
  refine zz_iconst 3059 Z.1.1 (v := nI 1) dL_law_3059 rfl ?_
  refine zz_iadd 3060 Z.1.1 (v := nI (i + 1)) dL_law_3060 (nI_add i 1) ?_
  refine lw_sld 3061 Z (j := i + 1) (by omega) e1 dL_law_3061 ?_
  refine zz_aload_n 3062 Z.1.1 0 dL_law_3062 rfl ?_
  refine zz_iload 3063 Z.1.1 5 dL_law_3063 rfl ?_
  refine zz_iconst 3065 Z.1.1 (v := nI 2) dL_law_3065 rfl ?_
  refine zz_iadd 3066 Z.1.1 (v := nI (i + 2)) dL_law_3066 (nI_add i 2) ?_
  refine lw_sld 3067 Z (j := i + 2) (by omega) e2 dL_law_3067 ?_
  refine zz_aload_n 3068 Z.1.1 3 dL_law_3068 rfl ?_
  obtain ⟨kc, rb, o', CU, RV, postR, hW, hR, hp, hq, hk, hv⟩ := pr_memberAt l Z.2.2.1 D C cD K KR adK adV ao Z.2.2.2.2.2.1.1.1 Z.2.2.2.2.2.1.1.2 Z.2.2.2.2.2.1.aoD u v o hI x1 x2
  refine lw_callW 3069 Z (na := 4) (As := [.int x1, .int x2]) hW gL_law_L_memberAt rfl ⟨rfl, rfl⟩ (by decide +kernel) ⟨Nat.le_of_ble_eq_true rfl, Nat.le_of_ble_eq_true rfl⟩ rfl rfl (Nat.le_of_ble_eq_true rfl) hcs dL_law_3069 ?_
  rintro r ⟨q1, q2⟩ ⟨er, eo, hC⟩
  replace eo : q2 = o' := eo
  replace hC : CU q1 := hC
  rw [er]
  refine zz_world (P' := (PL D C cD K KR ao ad q1 v q2 od)) (fun _ h => h) ?_
  refine zz_istore 3072 Z.1.1 (lv' := [(6, .int (nI kc)), (0, .ref b), (1, .ref (K 0)), (2, .ref (KR 0)), (3, .ref ao), (4, .ref ad), (5, .int (nI i))]) dL_law_3072 (by decide) rfl ?_
  refine zz_aload_n 3074 Z.1.1 3 dL_law_3074 rfl ?_
  refine zz_aload_n 3075 Z.1.1 1 dL_law_3075 rfl ?_
  refine zz_iload 3076 Z.1.1 6 dL_law_3076 rfl ?_
  refine zz_iconst 3078 Z.1.1 (v := nI 1) dL_law_3078 rfl ?_
  refine zz_iadd 3079 Z.1.1 (v := nI (i + 1)) dL_law_3079 (nI_add i 1) ?_
  refine lw_sld 3080 Z (j := i + 1) (by omega) e1 dL_law_3080 ?_
  refine zz_aload_n 3081 Z.1.1 1 dL_law_3081 rfl ?_
  refine zz_iload 3082 Z.1.1 6 dL_law_3082 rfl ?_
  refine zz_iconst 3084 Z.1.1 (v := nI 2) dL_law_3084 rfl ?_
  refine zz_iadd 3085 Z.1.1 (v := nI (i + 2)) dL_law_3085 (nI_add i 2) ?_
  refine lw_sld 3086 Z (j := i + 2) (by omega) e2 dL_law_3086 ?_
  refine lw_callRi 3087 Z (As := [.int x1, .int x2]) hR gL_law_X7_memberAt rfl ⟨rfl, rfl⟩ yd_X7_memberAt ⟨Nat.le_of_ble_eq_true rfl, Nat.le_of_ble_eq_true rfl⟩ rfl rfl (Nat.le_of_ble_eq_true rfl) hcs dL_law_3087 ?_
  intro r2 w hw2
  obtain ⟨er2, hV⟩ := hp r2 w hw2
  rw [er2]
  have hIN := hq q1 w hC hV
  refine zz_istore 3090 Z.1.1 (lv' := [(7, .int rb), (6, .int (nI kc)), (0, .ref b), (1, .ref (K 0)), (2, .ref (KR 0)), (3, .ref ao), (4, .ref ad), (5, .int (nI i))]) dL_law_3090 (by decide) rfl ?_
  refine zz_aload_n 3092 Z.1.1 4 dL_law_3092 rfl ?_
  refine lw_callRi 3093 Z (As := []) (kt_X7_thrown l D C KR Z.2.2.2.2.2.1.1.2 w.1 w.2.1 w.2.2.1 w.2.2.2 kc hIN.1) gL_law_X7_thrown rfl ⟨rfl, rfl⟩ yd_X7_thrown ⟨Nat.le_of_ble_eq_true rfl, Nat.le_of_ble_eq_true rfl⟩ rfl rfl (Nat.le_of_ble_eq_true rfl) hcs dL_law_3093 ?_
  rintro r3 w3 ⟨er3, ew3⟩
  subst ew3
  rw [er3]
  refine zz_world (P' := (PL D C cD K KR ao ad q1 w q2 od)) (fun _ h => h) ?_
  refine zz_iload 3096 Z.1.1 1 dL_law_3096 rfl ?_
  refine zz_icmp_eq 3098 3103 Z.1.1 (nI_toInt (by omega)) (nI_toInt (by omega)) dL_law_3098 (by decide) (fun h => ?_) (fun h => ?_)
  · skip
    refine zz_iload 3103 Z.1.1 1 dL_law_3103 rfl ?_
    refine zz_if_ne 3105 3120 Z.1.1 (nI_toInt (by omega)) dL_law_3105 (by decide) (fun h0 => ?_) (fun h0 => ?_)
    · skip
      refine zz_goto 3120 3988 Z.1.1 dL_law_3120 (by decide) ?_
      refine zz_lvs [2, 3, 4, 5, 6, 7] rfl ?_
      exact kk q1 w q2 od _ _ hIN.2 (by omega) (by omega)
    · skip
      have hv0 := hv (by omega)
      rw [← eo] at hv0
      refine zz_aload_n 3108 Z.1.1 5 dL_law_3108 rfl ?_
      refine zz_iconst 3109 Z.1.1 (v := nI 0) dL_law_3109 rfl ?_
      refine lw_lld 3110 Z dL_law_3110 ?_
      refine zz_iload 3111 Z.1.1 0 dL_law_3111 rfl ?_
      refine zz_i2l 3113 Z.1.1 dL_law_3113 rfl ?_
      refine zz_lcmp 3114 Z.1.1 dL_law_3114 ?_
      refine zz_ifL_eq 3115 3120 Z.1.1 dL_law_3115 (by decide) (fun h => ?_) (fun h => ?_)
      · skip
        refine zz_goto 3120 3988 Z.1.1 dL_law_3120 (by decide) ?_
        refine zz_lvs [2, 3, 4, 5, 6, 7] rfl ?_
        exact kk q1 w q2 od _ _ hIN.2 (by omega) (by omega)
      · exact absurd (hv0) h
  · exact absurd rfl h

set_option maxHeartbeats 8000000 in
set_option maxRecDepth 100000 in
theorem cs_sum {p : Program} {l : Launch} {e : Env} {s : State} {m : MethodId} {args : Array Value} {below : List Frame} {meth : Method} {c : Code} {Q : State → Prop} {D : va_G} {C : Nat → ClassId} {cD : ClassId} {K KR : Nat → Nat} {A : Nat → Prop} {adK adV : Nat → Nat} {ao ad b L : Nat} {xs : Nat → Int32} {u : CSt} {v : MSt} {o : Int64} {od : UInt64} {cells slots i : Nat} (Z : LCx p l s m args c meth A D C cD K KR adK adV ao ad b L xs) (hI : INV u v) (hi : i + 8 ≤ L) (hcs : cells + 1 ≤ room_1.cells ∧ slots + 6 ≤ room_1.slots) (kk : NXT p l e s m args below meth c Q A D C cD K KR ao ad b i cells slots) : ZZ p l e room_1 s m args below meth c cells slots Q A (PL D C cD K KR ao ad u v o od) 10 (lvL b (K 0) (KR 0) ao ad i) [] 3123 := by
  obtain ⟨x1, e1⟩ : ∃ z : Int32, xs (i + 1) = z := ⟨_, rfl⟩
  refine zz_aload_n 3123 Z.1.1 1 dL_law_3123 rfl ?_
  refine zz_aload_n 3124 Z.1.1 0 dL_law_3124 rfl ?_
  refine zz_iload 3125 Z.1.1 5 dL_law_3125 rfl ?_
  refine zz_iconst 3127 Z.1.1 (v := nI 1) dL_law_3127 rfl ?_
  refine zz_iadd 3128 Z.1.1 (v := nI (i + 1)) dL_law_3128 (nI_add i 1) ?_
  refine lw_sld 3129 Z (j := i + 1) (by omega) e1 dL_law_3129 ?_
  refine zz_aload_n 3130 Z.1.1 3 dL_law_3130 rfl ?_
  obtain ⟨kc, rb, o', CU, RV, postR, hW, hR, hp, hq, hk, hv⟩ := pr_sum l Z.2.2.1 D C cD K KR adK adV ao Z.2.2.2.2.2.1.1.1 Z.2.2.2.2.2.1.1.2 Z.2.2.2.2.2.1.aoD u v o hI x1
  refine lw_callW 3131 Z (na := 3) (As := [.int x1]) hW gL_law_L_sum rfl ⟨rfl, rfl⟩ (by decide +kernel) ⟨Nat.le_of_ble_eq_true rfl, Nat.le_of_ble_eq_true rfl⟩ rfl rfl (Nat.le_of_ble_eq_true rfl) hcs dL_law_3131 ?_
  rintro r ⟨q1, q2⟩ ⟨er, eo, hC⟩
  replace eo : q2 = o' := eo
  replace hC : CU q1 := hC
  rw [er]
  refine zz_world (P' := (PL D C cD K KR ao ad q1 v q2 od)) (fun _ h => h) ?_
  refine zz_istore 3134 Z.1.1 (lv' := [(6, .int (nI kc)), (0, .ref b), (1, .ref (K 0)), (2, .ref (KR 0)), (3, .ref ao), (4, .ref ad), (5, .int (nI i))]) dL_law_3134 (by decide) rfl ?_
  refine zz_aload_n 3136 Z.1.1 3 dL_law_3136 rfl ?_
  refine zz_aload_n 3137 Z.1.1 1 dL_law_3137 rfl ?_
  refine zz_iload 3138 Z.1.1 6 dL_law_3138 rfl ?_
  refine zz_iconst 3140 Z.1.1 (v := nI 1) dL_law_3140 rfl ?_
  refine zz_iadd 3141 Z.1.1 (v := nI (i + 1)) dL_law_3141 (nI_add i 1) ?_
  refine lw_sld 3142 Z (j := i + 1) (by omega) e1 dL_law_3142 ?_
  refine lw_callRl 3143 Z (As := [.int x1]) hR gL_law_X7_sum rfl ⟨rfl, rfl⟩ yd_X7_sum ⟨Nat.le_of_ble_eq_true rfl, Nat.le_of_ble_eq_true rfl⟩ rfl rfl (Nat.le_of_ble_eq_true rfl) hcs dL_law_3143 ?_
  intro r2 w hw2
  obtain ⟨er2, hV⟩ := hp r2 w hw2
  rw [er2]
  have hIN := hq q1 w hC hV
  refine zz_lstore 3146 Z.1.1 (lv' := [(7, .long rb), (6, .int (nI kc)), (0, .ref b), (1, .ref (K 0)), (2, .ref (KR 0)), (3, .ref ao), (4, .ref ad), (5, .int (nI i))]) dL_law_3146 (by decide) rfl ?_
  refine zz_aload_n 3148 Z.1.1 4 dL_law_3148 rfl ?_
  refine lw_callRi 3149 Z (As := []) (kt_X7_thrown l D C KR Z.2.2.2.2.2.1.1.2 w.1 w.2.1 w.2.2.1 w.2.2.2 kc hIN.1) gL_law_X7_thrown rfl ⟨rfl, rfl⟩ yd_X7_thrown ⟨Nat.le_of_ble_eq_true rfl, Nat.le_of_ble_eq_true rfl⟩ rfl rfl (Nat.le_of_ble_eq_true rfl) hcs dL_law_3149 ?_
  rintro r3 w3 ⟨er3, ew3⟩
  subst ew3
  rw [er3]
  refine zz_world (P' := (PL D C cD K KR ao ad q1 w q2 od)) (fun _ h => h) ?_
  refine zz_iload 3152 Z.1.1 1 dL_law_3152 rfl ?_
  refine zz_icmp_eq 3154 3159 Z.1.1 (nI_toInt (by omega)) (nI_toInt (by omega)) dL_law_3154 (by decide) (fun h => ?_) (fun h => ?_)
  · skip
    refine zz_iload 3159 Z.1.1 1 dL_law_3159 rfl ?_
    refine zz_if_ne 3161 3175 Z.1.1 (nI_toInt (by omega)) dL_law_3161 (by decide) (fun h0 => ?_) (fun h0 => ?_)
    · skip
      refine zz_goto 3175 3988 Z.1.1 dL_law_3175 (by decide) ?_
      refine zz_lvs [2, 3, 4, 5, 6, 7] rfl ?_
      exact kk q1 w q2 od _ _ hIN.2 (by omega) (by omega)
    · skip
      have hv0 := hv (by omega)
      rw [← eo] at hv0
      refine zz_aload_n 3164 Z.1.1 5 dL_law_3164 rfl ?_
      refine zz_iconst 3165 Z.1.1 (v := nI 0) dL_law_3165 rfl ?_
      refine lw_lld 3166 Z dL_law_3166 ?_
      refine zz_lload 3167 Z.1.1 0 dL_law_3167 rfl ?_
      refine zz_lcmp 3169 Z.1.1 dL_law_3169 ?_
      refine zz_ifL_eq 3170 3175 Z.1.1 dL_law_3170 (by decide) (fun h => ?_) (fun h => ?_)
      · skip
        refine zz_goto 3175 3988 Z.1.1 dL_law_3175 (by decide) ?_
        refine zz_lvs [2, 3, 4, 5, 6, 7] rfl ?_
        exact kk q1 w q2 od _ _ hIN.2 (by omega) (by omega)
      · exact absurd (hv0) h
  · exact absurd rfl h
