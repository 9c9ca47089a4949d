set_option maxHeartbeats 8000000 in
set_option maxRecDepth 100000 in
theorem cs_runs {p : Program} {l : Launch} {e : Env} {s : State} {m : MethodId} {args : Array Value} {below : List Frame} {meth : Method} {c : Code} {Q : State → Prop} {D : va_G} {C : Nat → ClassId} {cD : ClassId} {K KR : Nat → Nat} {A : Nat → Prop} {adK adV : Nat → Nat} {ao ad b L : Nat} {xs : Nat → Int32} {u : CSt} {v : MSt} {o : Int64} {od : UInt64} {cells slots i : Nat} (Z : LCx p l s m args c meth A D C cD K KR adK adV ao ad b L xs) (hI : INV u v) (hi : i + 8 ≤ L) (hcs : cells + 1 ≤ room_1.cells ∧ slots + 6 ≤ room_1.slots) (kk : NXT p l e s m args below meth c Q A D C cD K KR ao ad b i cells slots) : ZZ p l e room_1 s m args below meth c cells slots Q A (PL D C cD K KR ao ad u v o od) 10 (lvL b (K 0) (KR 0) ao ad i) [] 3178 := by
  obtain ⟨x1, e1⟩ : ∃ z : Int32, xs (i + 1) = z := ⟨_, rfl⟩
  refine zz_aload_n 3178 Z.1.1 1 dL_law_3178 rfl ?_
  refine zz_aload_n 3179 Z.1.1 0 dL_law_3179 rfl ?_
  refine zz_iload 3180 Z.1.1 5 dL_law_3180 rfl ?_
  refine zz_iconst 3182 Z.1.1 (v := nI 1) dL_law_3182 rfl ?_
  refine zz_iadd 3183 Z.1.1 (v := nI (i + 1)) dL_law_3183 (nI_add i 1) ?_
  refine lw_sld 3184 Z (j := i + 1) (by omega) e1 dL_law_3184 ?_
  refine zz_aload_n 3185 Z.1.1 3 dL_law_3185 rfl ?_
  obtain ⟨kc, rb, o', CU, RV, postR, hW, hR, hp, hq, hk, hv⟩ := pr_runs l Z.2.2.1 D C cD K KR adK adV ao Z.2.2.2.2.2.1.1.1 Z.2.2.2.2.2.1.1.2 Z.2.2.2.2.2.1.aoD u v o hI x1
  refine lw_callW 3186 Z (na := 3) (As := [.int x1]) hW gL_law_L_runs rfl ⟨rfl, rfl⟩ (by decide +kernel) ⟨Nat.le_of_ble_eq_true rfl, Nat.le_of_ble_eq_true rfl⟩ rfl rfl (Nat.le_of_ble_eq_true rfl) hcs dL_law_3186 ?_
  rintro r ⟨q1, q2⟩ ⟨er, eo, hC⟩
  replace eo : q2 = o' := eo
  replace hC : CU q1 := hC
  rw [er]
  refine zz_world (P' := (PL D C cD K KR ao ad q1 v q2 od)) (fun _ h => h) ?_
  refine zz_istore 3189 Z.1.1 (lv' := [(6, .int (nI kc)), (0, .ref b), (1, .ref (K 0)), (2, .ref (KR 0)), (3, .ref ao), (4, .ref ad), (5, .int (nI i))]) dL_law_3189 (by decide) rfl ?_
  refine zz_aload_n 3191 Z.1.1 3 dL_law_3191 rfl ?_
  refine zz_aload_n 3192 Z.1.1 1 dL_law_3192 rfl ?_
  refine zz_iload 3193 Z.1.1 6 dL_law_3193 rfl ?_
  refine zz_iconst 3195 Z.1.1 (v := nI 1) dL_law_3195 rfl ?_
  refine zz_iadd 3196 Z.1.1 (v := nI (i + 1)) dL_law_3196 (nI_add i 1) ?_
  refine lw_sld 3197 Z (j := i + 1) (by omega) e1 dL_law_3197 ?_
  refine lw_callRi 3198 Z (As := [.int x1]) hR gL_law_X7_runs rfl ⟨rfl, rfl⟩ yd_X7_runs ⟨Nat.le_of_ble_eq_true rfl, Nat.le_of_ble_eq_true rfl⟩ rfl rfl (Nat.le_of_ble_eq_true rfl) hcs dL_law_3198 ?_
  intro r2 w hw2
  obtain ⟨er2, hV⟩ := hp r2 w hw2
  rw [er2]
  have hIN := hq q1 w hC hV
  refine zz_istore 3201 Z.1.1 (lv' := [(7, .int rb), (6, .int (nI kc)), (0, .ref b), (1, .ref (K 0)), (2, .ref (KR 0)), (3, .ref ao), (4, .ref ad), (5, .int (nI i))]) dL_law_3201 (by decide) rfl ?_
  refine zz_aload_n 3203 Z.1.1 4 dL_law_3203 rfl ?_
  refine lw_callRi 3204 Z (As := []) (kt_X7_thrown l D C KR Z.2.2.2.2.2.1.1.2 w.1 w.2.1 w.2.2.1 w.2.2.2 kc hIN.1) gL_law_X7_thrown rfl ⟨rfl, rfl⟩ yd_X7_thrown ⟨Nat.le_of_ble_eq_true rfl, Nat.le_of_ble_eq_true rfl⟩ rfl rfl (Nat.le_of_ble_eq_true rfl) hcs dL_law_3204 ?_
  rintro r3 w3 ⟨er3, ew3⟩
  subst ew3
  rw [er3]
  refine zz_world (P' := (PL D C cD K KR ao ad q1 w q2 od)) (fun _ h => h) ?_
  refine zz_iload 3207 Z.1.1 1 dL_law_3207 rfl ?_
  refine zz_icmp_eq 3209 3214 Z.1.1 (nI_toInt (by omega)) (nI_toInt (by omega)) dL_law_3209 (by decide) (fun h => ?_) (fun h => ?_)
  · skip
    refine zz_iload 3214 Z.1.1 1 dL_law_3214 rfl ?_
    refine zz_if_ne 3216 3231 Z.1.1 (nI_toInt (by omega)) dL_law_3216 (by decide) (fun h0 => ?_) (fun h0 => ?_)
    · skip
      refine zz_goto 3231 3988 Z.1.1 dL_law_3231 (by decide) ?_
      refine zz_lvs [2, 3, 4, 5, 6, 7] rfl ?_
      exact kk q1 w q2 od _ _ hIN.2 (by omega) (by omega)
    · skip
      have hv0 := hv (by omega)
      rw [← eo] at hv0
      refine zz_aload_n 3219 Z.1.1 5 dL_law_3219 rfl ?_
      refine zz_iconst 3220 Z.1.1 (v := nI 0) dL_law_3220 rfl ?_
      refine lw_lld 3221 Z dL_law_3221 ?_
      refine zz_iload 3222 Z.1.1 0 dL_law_3222 rfl ?_
      refine zz_i2l 3224 Z.1.1 dL_law_3224 rfl ?_
      refine zz_lcmp 3225 Z.1.1 dL_law_3225 ?_
      refine zz_ifL_eq 3226 3231 Z.1.1 dL_law_3226 (by decide) (fun h => ?_) (fun h => ?_)
      · skip
        refine zz_goto 3231 3988 Z.1.1 dL_law_3231 (by decide) ?_
        refine zz_lvs [2, 3, 4, 5, 6, 7] rfl ?_
        exact kk q1 w q2 od _ _ hIN.2 (by omega) (by omega)
      · exact absurd (hv0) h
  · exact absurd rfl h

set_option maxHeartbeats 8000000 in
set_option maxRecDepth 100000 in
theorem cs_longestRun {p : Program} {l : Launch} {e : Env} {s : State} {m : MethodId} {args : Array Value} {below : List Frame} {meth : Method} {c : Code} {Q : State → Prop} {D : va_G} {C : Nat → ClassId} {cD : ClassId} {K KR : Nat → Nat} {A : Nat → Prop} {adK adV : Nat → Nat} {ao ad b L : Nat} {xs : Nat → Int32} {u : CSt} {v : MSt} {o : Int64} {od : UInt64} {cells slots i : Nat} (Z : LCx p l s m args c meth A D C cD K KR adK adV ao ad b L xs) (hI : INV u v) (hi : i + 8 ≤ L) (hcs : cells + 1 ≤ room_1.cells ∧ slots + 6 ≤ room_1.slots) (kk : NXT p l e s m args below meth c Q A D C cD K KR ao ad b i cells slots) : ZZ p l e room_1 s m args below meth c cells slots Q A (PL D C cD K KR ao ad u v o od) 10 (lvL b (K 0) (KR 0) ao ad i) [] 3234 := by
  obtain ⟨x1, e1⟩ : ∃ z : Int32, xs (i + 1) = z := ⟨_, rfl⟩
  refine zz_aload_n 3234 Z.1.1 1 dL_law_3234 rfl ?_
  refine zz_aload_n 3235 Z.1.1 0 dL_law_3235 rfl ?_
  refine zz_iload 3236 Z.1.1 5 dL_law_3236 rfl ?_
  refine zz_iconst 3238 Z.1.1 (v := nI 1) dL_law_3238 rfl ?_
  refine zz_iadd 3239 Z.1.1 (v := nI (i + 1)) dL_law_3239 (nI_add i 1) ?_
  refine lw_sld 3240 Z (j := i + 1) (by omega) e1 dL_law_3240 ?_
  refine zz_aload_n 3241 Z.1.1 3 dL_law_3241 rfl ?_
  obtain ⟨kc, rb, o', CU, RV, postR, hW, hR, hp, hq, hk, hv⟩ := pr_longestRun l Z.2.2.1 D C cD K KR adK adV ao Z.2.2.2.2.2.1.1.1 Z.2.2.2.2.2.1.1.2 Z.2.2.2.2.2.1.aoD u v o hI x1
  refine lw_callW 3242 Z (na := 3) (As := [.int x1]) hW gL_law_L_longestRun rfl ⟨rfl, rfl⟩ (by decide +kernel) ⟨Nat.le_of_ble_eq_true rfl, Nat.le_of_ble_eq_true rfl⟩ rfl rfl (Nat.le_of_ble_eq_true rfl) hcs dL_law_3242 ?_
  rintro r ⟨q1, q2⟩ ⟨er, eo, hC⟩
  replace eo : q2 = o' := eo
  replace hC : CU q1 := hC
  rw [er]
  refine zz_world (P' := (PL D C cD K KR ao ad q1 v q2 od)) (fun _ h => h) ?_
  refine zz_istore 3245 Z.1.1 (lv' := [(6, .int (nI kc)), (0, .ref b), (1, .ref (K 0)), (2, .ref (KR 0)), (3, .ref ao), (4, .ref ad), (5, .int (nI i))]) dL_law_3245 (by decide) rfl ?_
  refine zz_aload_n 3247 Z.1.1 3 dL_law_3247 rfl ?_
  refine zz_aload_n 3248 Z.1.1 1 dL_law_3248 rfl ?_
  refine zz_iload 3249 Z.1.1 6 dL_law_3249 rfl ?_
  refine zz_iconst 3251 Z.1.1 (v := nI 1) dL_law_3251 rfl ?_
  refine zz_iadd 3252 Z.1.1 (v := nI (i + 1)) dL_law_3252 (nI_add i 1) ?_
  refine lw_sld 3253 Z (j := i + 1) (by omega) e1 dL_law_3253 ?_
  refine lw_callRi 3254 Z (As := [.int x1]) hR gL_law_X7_longestRun rfl ⟨rfl, rfl⟩ yd_X7_longestRun ⟨Nat.le_of_ble_eq_true rfl, Nat.le_of_ble_eq_true rfl⟩ rfl rfl (Nat.le_of_ble_eq_true rfl) hcs dL_law_3254 ?_
  intro r2 w hw2
  obtain ⟨er2, hV⟩ := hp r2 w hw2
  rw [er2]
  have hIN := hq q1 w hC hV
  refine zz_istore 3257 Z.1.1 (lv' := [(7, .int rb), (6, .int (nI kc)), (0, .ref b), (1, .ref (K 0)), (2, .ref (KR 0)), (3, .ref ao), (4, .ref ad), (5, .int (nI i))]) dL_law_3257 (by decide) rfl ?_
  refine zz_aload_n 3259 Z.1.1 4 dL_law_3259 rfl ?_
  refine lw_callRi 3260 Z (As := []) (kt_X7_thrown l D C KR Z.2.2.2.2.2.1.1.2 w.1 w.2.1 w.2.2.1 w.2.2.2 kc hIN.1) gL_law_X7_thrown rfl ⟨rfl, rfl⟩ yd_X7_thrown ⟨Nat.le_of_ble_eq_true rfl, Nat.le_of_ble_eq_true rfl⟩ rfl rfl (Nat.le_of_ble_eq_true rfl) hcs dL_law_3260 ?_
  rintro r3 w3 ⟨er3, ew3⟩
  subst ew3
  rw [er3]
  refine zz_world (P' := (PL D C cD K KR ao ad q1 w q2 od)) (fun _ h => h) ?_
  refine zz_iload 3263 Z.1.1 1 dL_law_3263 rfl ?_
  refine zz_icmp_eq 3265 3270 Z.1.1 (nI_toInt (by omega)) (nI_toInt (by omega)) dL_law_3265 (by decide) (fun h => ?_) (fun h => ?_)
  · skip
    refine zz_iload 3270 Z.1.1 1 dL_law_3270 rfl ?_
    refine zz_if_ne 3272 3287 Z.1.1 (nI_toInt (by omega)) dL_law_3272 (by decide) (fun h0 => ?_) (fun h0 => ?_)
    · skip
      refine zz_goto 3287 3988 Z.1.1 dL_law_3287 (by decide) ?_
      refine zz_lvs [2, 3, 4, 5, 6, 7] rfl ?_
      exact kk q1 w q2 od _ _ hIN.2 (by omega) (by omega)
    · skip
      have hv0 := hv (by omega)
      rw [← eo] at hv0
      refine zz_aload_n 3275 Z.1.1 5 dL_law_3275 rfl ?_
      refine zz_iconst 3276 Z.1.1 (v := nI 0) dL_law_3276 rfl ?_
      refine lw_lld 3277 Z dL_law_3277 ?_
      refine zz_iload 3278 Z.1.1 0 dL_law_3278 rfl ?_
      refine zz_i2l 3280 Z.1.1 dL_law_3280 rfl ?_
      refine zz_lcmp 3281 Z.1.1 dL_law_3281 ?_
      refine zz_ifL_eq 3282 3287 Z.1.1 dL_law_3282 (by decide) (fun h => ?_) (fun h => ?_)
      · skip
        refine zz_goto 3287 3988 Z.1.1 dL_law_3287 (by decide) ?_
        refine zz_lvs [2, 3, 4, 5, 6, 7] rfl ?_
        exact kk q1 w q2 od _ _ hIN.2 (by omega) (by omega)
      · exact absurd (hv0) h
  · exact absurd rfl h

set_option maxHeartbeats 8000000 in
set_option maxRecDepth 100000 in
theorem cs_areEqual {p : Program} {l : Launch} {e : Env} {s : State} {m : MethodId} {args : Array Value} {below : List Frame} {meth : Method} {c : Code} {Q : State → Prop} {D : va_G} {C : Nat → ClassId} {cD : ClassId} {K KR : Nat → Nat} {A : Nat → Prop} {adK adV : Nat → Nat} {ao ad b L : Nat} {xs : Nat → Int32} {u : CSt} {v : MSt} {o : Int64} {od : UInt64} {cells slots i : Nat} (Z : LCx p l s m args c meth A D C cD K KR adK adV ao ad b L xs) (hI : INV u v) (hi : i + 8 ≤ L) (hcs : cells + 1 ≤ room_1.cells ∧ slots + 6 ≤ room_1.slots) (kk : NXT p l e s m args below meth c Q A D C cD K KR ao ad b i cells slots) : ZZ p l e room_1 s m args below meth c cells slots Q A (PL D C cD K KR ao ad u v o od) 10 (lvL b (K 0) (KR 0) ao ad i) [] 3290 := by
  obtain ⟨x1, e1⟩ : ∃ z : Int32, xs (i + 1) = z := ⟨_, rfl⟩
  obtain ⟨x2, e2⟩ : ∃ z : Int32, xs (i + 2) = z := ⟨_, rfl⟩
  refine zz_aload_n 3290 Z.1.1 1 dL_law_3290 rfl ?_
  refine zz_aload_n 3291 Z.1.1 0 dL_law_3291 rfl ?_
  refine zz_iload 3292 Z.1.1 5 dL_law_3292 rfl ?_
  refine zz_iconst 3294 Z.1.1 (v := nI 1) dL_law_3294 rfl ?_
  refine zz_iadd 3295 Z.1.1 (v := nI (i + 1)) dL_law_3295 (nI_add i 1) ?_
  refine lw_sld 3296 Z (j := i + 1) (by omega) e1 dL_law_3296 ?_
  refine zz_aload_n 3297 Z.1.1 0 dL_law_3297 rfl ?_
  refine zz_iload 3298 Z.1.1 5 dL_law_3298 rfl ?_
  refine zz_iconst 3300 Z.1.1 (v := nI 2) dL_law_3300 rfl ?_
  refine zz_iadd 3301 Z.1.1 (v := nI (i + 2)) dL_law_3301 (nI_add i 2) ?_
  refine lw_sld 3302 Z (j := i + 2) (by omega) e2 dL_law_3302 ?_
  refine zz_aload_n 3303 Z.1.1 3 dL_law_3303 rfl ?_
  obtain ⟨kc, rb, o', CU, RV, postR, hW, hR, hp, hq, hk, hv⟩ := pr_areEqual l Z.2.2.1 D C cD K KR adK adV ao Z.2.2.2.2.2.1.1.1 Z.2.2.2.2.2.1.1.2 Z.2.2.2.2.2.1.aoD u v o hI x1 x2
  refine lw_callW 3304 Z (na := 4) (As := [.int x1, .int x2]) hW gL_law_L_areEqual rfl ⟨rfl, rfl⟩ (by decide +kernel) ⟨Nat.le_of_ble_eq_true rfl, Nat.le_of_ble_eq_true rfl⟩ rfl rfl (Nat.le_of_ble_eq_true rfl) hcs dL_law_3304 ?_
  rintro r ⟨q1, q2⟩ ⟨er, eo, hC⟩
  replace eo : q2 = o' := eo
  replace hC : CU q1 := hC
  rw [er]
  refine zz_world (P' := (PL D C cD K KR ao ad q1 v q2 od)) (fun _ h => h) ?_
  refine zz_istore 3307 Z.1.1 (lv' := [(6, .int (nI kc)), (0, .ref b), (1, .ref (K 0)), (2, .ref (KR 0)), (3, .ref ao), (4, .ref ad), (5, .int (nI i))]) dL_law_3307 (by decide) rfl ?_
  refine zz_aload_n 3309 Z.1.1 3 dL_law_3309 rfl ?_
  refine zz_aload_n 3310 Z.1.1 1 dL_law_3310 rfl ?_
  refine zz_iload 3311 Z.1.1 6 dL_law_3311 rfl ?_
  refine zz_iconst 3313 Z.1.1 (v := nI 1) dL_law_3313 rfl ?_
  refine zz_iadd 3314 Z.1.1 (v := nI (i + 1)) dL_law_3314 (nI_add i 1) ?_
  refine lw_sld 3315 Z (j := i + 1) (by omega) e1 dL_law_3315 ?_
  refine zz_aload_n 3316 Z.1.1 1 dL_law_3316 rfl ?_
  refine zz_iload 3317 Z.1.1 6 dL_law_3317 rfl ?_
  refine zz_iconst 3319 Z.1.1 (v := nI 2) dL_law_3319 rfl ?_
  refine zz_iadd 3320 Z.1.1 (v := nI (i + 2)) dL_law_3320 (nI_add i 2) ?_
  refine lw_sld 3321 Z (j := i + 2) (by omega) e2 dL_law_3321 ?_
  refine lw_callRi 3322 Z (As := [.int x1, .int x2]) hR gL_law_X7_areEqual rfl ⟨rfl, rfl⟩ yd_X7_areEqual ⟨Nat.le_of_ble_eq_true rfl, Nat.le_of_ble_eq_true rfl⟩ rfl rfl (Nat.le_of_ble_eq_true rfl) hcs dL_law_3322 ?_
  intro r2 w hw2
  obtain ⟨er2, hV⟩ := hp r2 w hw2
  rw [er2]
  have hIN := hq q1 w hC hV
  refine zz_istore 3325 Z.1.1 (lv' := [(7, .int rb), (6, .int (nI kc)), (0, .ref b), (1, .ref (K 0)), (2, .ref (KR 0)), (3, .ref ao), (4, .ref ad), (5, .int (nI i))]) dL_law_3325 (by decide) rfl ?_
  refine zz_aload_n 3327 Z.1.1 4 dL_law_3327 rfl ?_
  refine lw_callRi 3328 Z (As := []) (kt_X7_thrown l D C KR Z.2.2.2.2.2.1.1.2 w.1 w.2.1 w.2.2.1 w.2.2.2 kc hIN.1) gL_law_X7_thrown rfl ⟨rfl, rfl⟩ yd_X7_thrown ⟨Nat.le_of_ble_eq_true rfl, Nat.le_of_ble_eq_true rfl⟩ rfl rfl (Nat.le_of_ble_eq_true rfl) hcs dL_law_3328 ?_
  rintro r3 w3 ⟨er3, ew3⟩
  subst ew3
  rw [er3]
  refine zz_world (P' := (PL D C cD K KR ao ad q1 w q2 od)) (fun _ h => h) ?_
  refine zz_iload 3331 Z.1.1 1 dL_law_3331 rfl ?_
  refine zz_icmp_eq 3333 3338 Z.1.1 (nI_toInt (by omega)) (nI_toInt (by omega)) dL_law_3333 (by decide) (fun h => ?_) (fun h => ?_)
  · skip
    refine zz_iload 3338 Z.1.1 1 dL_law_3338 rfl ?_
    refine zz_if_ne 3340 3362 Z.1.1 (nI_toInt (by omega)) dL_law_3340 (by decide) (fun h0 => ?_) (fun h0 => ?_)
    · skip
      refine zz_goto 3362 3988 Z.1.1 dL_law_3362 (by decide) ?_
      refine zz_lvs [2, 3, 4, 5, 6, 7] rfl ?_
      exact kk q1 w q2 od _ _ hIN.2 (by omega) (by omega)
    · skip
      have hv0 := hv (by omega)
      rw [← eo] at hv0
      refine zz_aload_n 3343 Z.1.1 5 dL_law_3343 rfl ?_
      refine zz_iconst 3344 Z.1.1 (v := nI 0) dL_law_3344 rfl ?_
      refine lw_lld 3345 Z dL_law_3345 ?_
      refine zz_iload 3346 Z.1.1 0 dL_law_3346 rfl ?_
      refine zz_if_eq 3348 3355 Z.1.1 rfl dL_law_3348 (by decide) (fun h7 => ?_) (fun h7 => ?_)
      · skip
        refine zz_lconst 3355 Z.1.1 (v := 0) dL_law_3355 (by decide) ?_
        refine zz_lcmp 3356 Z.1.1 dL_law_3356 ?_
        refine zz_ifL_eq 3357 3362 Z.1.1 dL_law_3357 (by decide) (fun h => ?_) (fun h => ?_)
        · skip
          refine zz_goto 3362 3988 Z.1.1 dL_law_3362 (by decide) ?_
          refine zz_lvs [2, 3, 4, 5, 6, 7] rfl ?_
          exact kk q1 w q2 od _ _ hIN.2 (by omega) (by omega)
        · exact absurd (hv0.trans (if_pos (i32_z h7))) h
      · skip
        refine zz_lconst 3351 Z.1.1 (v := 1) dL_law_3351 (by decide) ?_
        refine zz_goto 3352 3356 Z.1.1 dL_law_3352 (by decide) ?_
        refine zz_lcmp 3356 Z.1.1 dL_law_3356 ?_
        refine zz_ifL_eq 3357 3362 Z.1.1 dL_law_3357 (by decide) (fun h => ?_) (fun h => ?_)
        · skip
          refine zz_goto 3362 3988 Z.1.1 dL_law_3362 (by decide) ?_
          refine zz_lvs [2, 3, 4, 5, 6, 7] rfl ?_
          exact kk q1 w q2 od _ _ hIN.2 (by omega) (by omega)
        · exact absurd (hv0.trans (if_neg (fun z => h7 (by rw [z]; rfl)))) h
  · exact absurd rfl h

set_option maxHeartbeats 8000000 in
set_option maxRecDepth 100000 in
theorem cs_meet {p : Program} {l : Launch} {e : Env} {s : State} {m : MethodId} {args : Array Value} {below : List Frame} {meth : Method} {c : Code} {Q : State → Prop} {D : va_G} {C : Nat → ClassId} {cD : ClassId} {K KR : Nat → Nat} {A : Nat → Prop} {adK adV : Nat → Nat} {ao ad b L : Nat} {xs : Nat → Int32} {u : CSt} {v : MSt} {o : Int64} {od : UInt64} {cells slots i : Nat} (Z : LCx p l s m args c meth A D C cD K KR adK adV ao ad b L xs) (hI : INV u v) (hi : i + 8 ≤ L) (hcs : cells + 1 ≤ room_1.cells ∧ slots + 6 ≤ room_1.slots) (kk : NXT p l e s m args below meth c Q A D C cD K KR ao ad b i cells slots) : ZZ p l e room_1 s m args below meth c cells slots Q A (PL D C cD K KR ao ad u v o od) 10 (lvL b (K 0) (KR 0) ao ad i) [] 3365 := by
  obtain ⟨x1, e1⟩ : ∃ z : Int32, xs (i + 1) = z := ⟨_, rfl⟩
  obtain ⟨x2, e2⟩ : ∃ z : Int32, xs (i + 2) = z := ⟨_, rfl⟩
  refine zz_aload_n 3365 Z.1.1 1 dL_law_3365 rfl ?_
  refine zz_aload_n 3366 Z.1.1 0 dL_law_3366 rfl ?_
  refine zz_iload 3367 Z.1.1 5 dL_law_3367 rfl ?_
  refine zz_iconst 3369 Z.1.1 (v := nI 1) dL_law_3369 rfl ?_
  refine zz_iadd 3370 Z.1.1 (v := nI (i + 1)) dL_law_3370 (nI_add i 1) ?_
  refine lw_sld 3371 Z (j := i + 1) (by omega) e1 dL_law_3371 ?_
  refine zz_aload_n 3372 Z.1.1 0 dL_law_3372 rfl ?_
  refine zz_iload 3373 Z.1.1 5 dL_law_3373 rfl ?_
  refine zz_iconst 3375 Z.1.1 (v := nI 2) dL_law_3375 rfl ?_
  refine zz_iadd 3376 Z.1.1 (v := nI (i + 2)) dL_law_3376 (nI_add i 2) ?_
  refine lw_sld 3377 Z (j := i + 2) (by omega) e2 dL_law_3377 ?_
  refine zz_aload_n 3378 Z.1.1 3 dL_law_3378 rfl ?_
  obtain ⟨kc, rb, o', CU, RV, postR, hW, hR, hp, hq, hk, hv⟩ := pr_meet l Z.2.2.1 D C cD K KR adK adV ao Z.2.2.2.2.2.1.1.1 Z.2.2.2.2.2.1.1.2 Z.2.2.2.2.2.1.aoD u v o hI x1 x2
  refine lw_callW 3379 Z (na := 4) (As := [.int x1, .int x2]) hW gL_law_L_meet rfl ⟨rfl, rfl⟩ (by decide +kernel) ⟨Nat.le_of_ble_eq_true rfl, Nat.le_of_ble_eq_true rfl⟩ rfl rfl (Nat.le_of_ble_eq_true rfl) hcs dL_law_3379 ?_
  rintro r ⟨q1, q2⟩ ⟨er, eo, hC⟩
  replace eo : q2 = o' := eo
  replace hC : CU q1 := hC
  rw [er]
  refine zz_world (P' := (PL D C cD K KR ao ad q1 v q2 od)) (fun _ h => h) ?_
  refine zz_istore 3382 Z.1.1 (lv' := [(6, .int (nI kc)), (0, .ref b), (1, .ref (K 0)), (2, .ref (KR 0)), (3, .ref ao), (4, .ref ad), (5, .int (nI i))]) dL_law_3382 (by decide) rfl ?_
  refine zz_aload_n 3384 Z.1.1 3 dL_law_3384 rfl ?_
  refine zz_aload_n 3385 Z.1.1 1 dL_law_3385 rfl ?_
  refine zz_iload 3386 Z.1.1 6 dL_law_3386 rfl ?_
  refine zz_iconst 3388 Z.1.1 (v := nI 1) dL_law_3388 rfl ?_
  refine zz_iadd 3389 Z.1.1 (v := nI (i + 1)) dL_law_3389 (nI_add i 1) ?_
  refine lw_sld 3390 Z (j := i + 1) (by omega) e1 dL_law_3390 ?_
  refine zz_aload_n 3391 Z.1.1 1 dL_law_3391 rfl ?_
  refine zz_iload 3392 Z.1.1 6 dL_law_3392 rfl ?_
  refine zz_iconst 3394 Z.1.1 (v := nI 2) dL_law_3394 rfl ?_
  refine zz_iadd 3395 Z.1.1 (v := nI (i + 2)) dL_law_3395 (nI_add i 2) ?_
  refine lw_sld 3396 Z (j := i + 2) (by omega) e2 dL_law_3396 ?_
  refine lw_callRi 3397 Z (As := [.int x1, .int x2]) hR gL_law_X7_meet rfl ⟨rfl, rfl⟩ yd_X7_meet ⟨Nat.le_of_ble_eq_true rfl, Nat.le_of_ble_eq_true rfl⟩ rfl rfl (Nat.le_of_ble_eq_true rfl) hcs dL_law_3397 ?_
  intro r2 w hw2
  obtain ⟨er2, hV⟩ := hp r2 w hw2
  rw [er2]
  have hIN := hq q1 w hC hV
  refine zz_istore 3400 Z.1.1 (lv' := [(7, .int rb), (6, .int (nI kc)), (0, .ref b), (1, .ref (K 0)), (2, .ref (KR 0)), (3, .ref ao), (4, .ref ad), (5, .int (nI i))]) dL_law_3400 (by decide) rfl ?_
  refine zz_aload_n 3402 Z.1.1 4 dL_law_3402 rfl ?_
  refine lw_callRi 3403 Z (As := []) (kt_X7_thrown l D C KR Z.2.2.2.2.2.1.1.2 w.1 w.2.1 w.2.2.1 w.2.2.2 kc hIN.1) gL_law_X7_thrown rfl ⟨rfl, rfl⟩ yd_X7_thrown ⟨Nat.le_of_ble_eq_true rfl, Nat.le_of_ble_eq_true rfl⟩ rfl rfl (Nat.le_of_ble_eq_true rfl) hcs dL_law_3403 ?_
  rintro r3 w3 ⟨er3, ew3⟩
  subst ew3
  rw [er3]
  refine zz_world (P' := (PL D C cD K KR ao ad q1 w q2 od)) (fun _ h => h) ?_
  refine zz_iload 3406 Z.1.1 1 dL_law_3406 rfl ?_
  refine zz_icmp_eq 3408 3413 Z.1.1 (nI_toInt (by omega)) (nI_toInt (by omega)) dL_law_3408 (by decide) (fun h => ?_) (fun h => ?_)
  · skip
    refine zz_iload 3413 Z.1.1 1 dL_law_3413 rfl ?_
    refine zz_if_ne 3415 3437 Z.1.1 (nI_toInt (by omega)) dL_law_3415 (by decide) (fun h0 => ?_) (fun h0 => ?_)
    · skip
      refine zz_goto 3437 3988 Z.1.1 dL_law_3437 (by decide) ?_
      refine zz_lvs [2, 3, 4, 5, 6, 7] rfl ?_
      exact kk q1 w q2 od _ _ hIN.2 (by omega) (by omega)
    · skip
      have hv0 := hv (by omega)
      rw [← eo] at hv0
      refine zz_aload_n 3418 Z.1.1 5 dL_law_3418 rfl ?_
      refine zz_iconst 3419 Z.1.1 (v := nI 0) dL_law_3419 rfl ?_
      refine lw_lld 3420 Z dL_law_3420 ?_
      refine zz_iload 3421 Z.1.1 0 dL_law_3421 rfl ?_
      refine zz_if_eq 3423 3430 Z.1.1 rfl dL_law_3423 (by decide) (fun h7 => ?_) (fun h7 => ?_)
      · skip
        refine zz_lconst 3430 Z.1.1 (v := 0) dL_law_3430 (by decide) ?_
        refine zz_lcmp 3431 Z.1.1 dL_law_3431 ?_
        refine zz_ifL_eq 3432 3437 Z.1.1 dL_law_3432 (by decide) (fun h => ?_) (fun h => ?_)
        · skip
          refine zz_goto 3437 3988 Z.1.1 dL_law_3437 (by decide) ?_
          refine zz_lvs [2, 3, 4, 5, 6, 7] rfl ?_
          exact kk q1 w q2 od _ _ hIN.2 (by omega) (by omega)
        · exact absurd (hv0.trans (if_pos (i32_z h7))) h
      · skip
        refine zz_lconst 3426 Z.1.1 (v := 1) dL_law_3426 (by decide) ?_
        refine zz_goto 3427 3431 Z.1.1 dL_law_3427 (by decide) ?_
        refine zz_lcmp 3431 Z.1.1 dL_law_3431 ?_
        refine zz_ifL_eq 3432 3437 Z.1.1 dL_law_3432 (by decide) (fun h => ?_) (fun h => ?_)
        · skip
          refine zz_goto 3437 3988 Z.1.1 dL_law_3437 (by decide) ?_
          refine zz_lvs [2, 3, 4, 5, 6, 7] rfl ?_
          exact kk q1 w q2 od _ _ hIN.2 (by omega) (by omega)
        · exact absurd (hv0.trans (if_neg (fun z => h7 (by rw [z]; rfl)))) h
  · exact absurd rfl h

set_option maxHeartbeats 8000000 in
set_option maxRecDepth 100000 in
theorem cs_isWithin {p : Program} {l : Launch} {e : Env} {s : State} {m : MethodId} {args : Array Value} {below : List Frame} {meth : Method} {c : Code} {Q : State → Prop} {D : va_G} {C : Nat → ClassId} {cD : ClassId} {K KR : Nat → Nat} {A : Nat → Prop} {adK adV : Nat → Nat} {ao ad b L : Nat} {xs : Nat → Int32} {u : CSt} {v : MSt} {o : Int64} {od : UInt64} {cells slots i : Nat} (Z : LCx p l s m args c meth A D C cD K KR adK adV ao ad b L xs) (hI : INV u v) (hi : i + 8 ≤ L) (hcs : cells + 1 ≤ room_1.cells ∧ slots + 6 ≤ room_1.slots) (kk : NXT p l e s m args below meth c Q A D C cD K KR ao ad b i cells slots) : ZZ p l e room_1 s m args below meth c cells slots Q A (PL D C cD K KR ao ad u v o od) 10 (lvL b (K 0) (KR 0) ao ad i) [] 3440 := by
  obtain ⟨x1, e1⟩ : ∃ z : Int32, xs (i + 1) = z := ⟨_, rfl⟩
  obtain ⟨x2, e2⟩ : ∃ z : Int32, xs (i + 2) = z := ⟨_, rfl⟩
  refine zz_aload_n 3440 Z.1.1 1 dL_law_3440 rfl ?_
  refine zz_aload_n 3441 Z.1.1 0 dL_law_3441 rfl ?_
  refine zz_iload 3442 Z.1.1 5 dL_law_3442 rfl ?_
  refine zz_iconst 3444 Z.1.1 (v := nI 1) dL_law_3444 rfl ?_
  refine zz_iadd 3445 Z.1.1 (v := nI (i + 1)) dL_law_3445 (nI_add i 1) ?_
  refine lw_sld 3446 Z (j := i + 1) (by omega) e1 dL_law_3446 ?_
  refine zz_aload_n 3447 Z.1.1 0 dL_law_3447 rfl ?_
  refine zz_iload 3448 Z.1.1 5 dL_law_3448 rfl ?_
  refine zz_iconst 3450 Z.1.1 (v := nI 2) dL_law_3450 rfl ?_
  refine zz_iadd 3451 Z.1.1 (v := nI (i + 2)) dL_law_3451 (nI_add i 2) ?_
  refine lw_sld 3452 Z (j := i + 2) (by omega) e2 dL_law_3452 ?_
  refine zz_aload_n 3453 Z.1.1 3 dL_law_3453 rfl ?_
  obtain ⟨kc, rb, o', CU, RV, postR, hW, hR, hp, hq, hk, hv⟩ := pr_isWithin l Z.2.2.1 D C cD K KR adK adV ao Z.2.2.2.2.2.1.1.1 Z.2.2.2.2.2.1.1.2 Z.2.2.2.2.2.1.aoD u v o hI x1 x2
  refine lw_callW 3454 Z (na := 4) (As := [.int x1, .int x2]) hW gL_law_L_isWithin rfl ⟨rfl, rfl⟩ (by decide +kernel) ⟨Nat.le_of_ble_eq_true rfl, Nat.le_of_ble_eq_true rfl⟩ rfl rfl (Nat.le_of_ble_eq_true rfl) hcs dL_law_3454 ?_
  rintro r ⟨q1, q2⟩ ⟨er, eo, hC⟩
  replace eo : q2 = o' := eo
  replace hC : CU q1 := hC
  rw [er]
  refine zz_world (P' := (PL D C cD K KR ao ad q1 v q2 od)) (fun _ h => h) ?_
  refine zz_istore 3457 Z.1.1 (lv' := [(6, .int (nI kc)), (0, .ref b), (1, .ref (K 0)), (2, .ref (KR 0)), (3, .ref ao), (4, .ref ad), (5, .int (nI i))]) dL_law_3457 (by decide) rfl ?_
  refine zz_aload_n 3459 Z.1.1 3 dL_law_3459 rfl ?_
  refine zz_aload_n 3460 Z.1.1 1 dL_law_3460 rfl ?_
  refine zz_iload 3461 Z.1.1 6 dL_law_3461 rfl ?_
  refine zz_iconst 3463 Z.1.1 (v := nI 1) dL_law_3463 rfl ?_
  refine zz_iadd 3464 Z.1.1 (v := nI (i + 1)) dL_law_3464 (nI_add i 1) ?_
  refine lw_sld 3465 Z (j := i + 1) (by omega) e1 dL_law_3465 ?_
  refine zz_aload_n 3466 Z.1.1 1 dL_law_3466 rfl ?_
  refine zz_iload 3467 Z.1.1 6 dL_law_3467 rfl ?_
  refine zz_iconst 3469 Z.1.1 (v := nI 2) dL_law_3469 rfl ?_
  refine zz_iadd 3470 Z.1.1 (v := nI (i + 2)) dL_law_3470 (nI_add i 2) ?_
  refine lw_sld 3471 Z (j := i + 2) (by omega) e2 dL_law_3471 ?_
  refine lw_callRi 3472 Z (As := [.int x1, .int x2]) hR gL_law_X7_isWithin rfl ⟨rfl, rfl⟩ yd_X7_isWithin ⟨Nat.le_of_ble_eq_true rfl, Nat.le_of_ble_eq_true rfl⟩ rfl rfl (Nat.le_of_ble_eq_true rfl) hcs dL_law_3472 ?_
  intro r2 w hw2
  obtain ⟨er2, hV⟩ := hp r2 w hw2
  rw [er2]
  have hIN := hq q1 w hC hV
  refine zz_istore 3475 Z.1.1 (lv' := [(7, .int rb), (6, .int (nI kc)), (0, .ref b), (1, .ref (K 0)), (2, .ref (KR 0)), (3, .ref ao), (4, .ref ad), (5, .int (nI i))]) dL_law_3475 (by decide) rfl ?_
  refine zz_aload_n 3477 Z.1.1 4 dL_law_3477 rfl ?_
  refine lw_callRi 3478 Z (As := []) (kt_X7_thrown l D C KR Z.2.2.2.2.2.1.1.2 w.1 w.2.1 w.2.2.1 w.2.2.2 kc hIN.1) gL_law_X7_thrown rfl ⟨rfl, rfl⟩ yd_X7_thrown ⟨Nat.le_of_ble_eq_true rfl, Nat.le_of_ble_eq_true rfl⟩ rfl rfl (Nat.le_of_ble_eq_true rfl) hcs dL_law_3478 ?_
  rintro r3 w3 ⟨er3, ew3⟩
  subst ew3
  rw [er3]
  refine zz_world (P' := (PL D C cD K KR ao ad q1 w q2 od)) (fun _ h => h) ?_
  refine zz_iload 3481 Z.1.1 1 dL_law_3481 rfl ?_
  refine zz_icmp_eq 3483 3488 Z.1.1 (nI_toInt (by omega)) (nI_toInt (by omega)) dL_law_3483 (by decide) (fun h => ?_) (fun h => ?_)
  · skip
    refine zz_iload 3488 Z.1.1 1 dL_law_3488 rfl ?_
    refine zz_if_ne 3490 3512 Z.1.1 (nI_toInt (by omega)) dL_law_3490 (by decide) (fun h0 => ?_) (fun h0 => ?_)
    · skip
      refine zz_goto 3512 3988 Z.1.1 dL_law_3512 (by decide) ?_
      refine zz_lvs [2, 3, 4, 5, 6, 7] rfl ?_
      exact kk q1 w q2 od _ _ hIN.2 (by omega) (by omega)
    · skip
      have hv0 := hv (by omega)
      rw [← eo] at hv0
      refine zz_aload_n 3493 Z.1.1 5 dL_law_3493 rfl ?_
      refine zz_iconst 3494 Z.1.1 (v := nI 0) dL_law_3494 rfl ?_
      refine lw_lld 3495 Z dL_law_3495 ?_
      refine zz_iload 3496 Z.1.1 0 dL_law_3496 rfl ?_
      refine zz_if_eq 3498 3505 Z.1.1 rfl dL_law_3498 (by decide) (fun h7 => ?_) (fun h7 => ?_)
      · skip
        refine zz_lconst 3505 Z.1.1 (v := 0) dL_law_3505 (by decide) ?_
        refine zz_lcmp 3506 Z.1.1 dL_law_3506 ?_
        refine zz_ifL_eq 3507 3512 Z.1.1 dL_law_3507 (by decide) (fun h => ?_) (fun h => ?_)
        · skip
          refine zz_goto 3512 3988 Z.1.1 dL_law_3512 (by decide) ?_
          refine zz_lvs [2, 3, 4, 5, 6, 7] rfl ?_
          exact kk q1 w q2 od _ _ hIN.2 (by omega) (by omega)
        · exact absurd (hv0.trans (if_pos (i32_z h7))) h
      · skip
        refine zz_lconst 3501 Z.1.1 (v := 1) dL_law_3501 (by decide) ?_
        refine zz_goto 3502 3506 Z.1.1 dL_law_3502 (by decide) ?_
        refine zz_lcmp 3506 Z.1.1 dL_law_3506 ?_
        refine zz_ifL_eq 3507 3512 Z.1.1 dL_law_3507 (by decide) (fun h => ?_) (fun h => ?_)
        · skip
          refine zz_goto 3512 3988 Z.1.1 dL_law_3512 (by decide) ?_
          refine zz_lvs [2, 3, 4, 5, 6, 7] rfl ?_
          exact kk q1 w q2 od _ _ hIN.2 (by omega) (by omega)
        · exact absurd (hv0.trans (if_neg (fun z => h7 (by rw [z]; rfl)))) h
  · exact absurd rfl h

set_option maxHeartbeats 8000000 in
set_option maxRecDepth 100000 in
theorem cs_unionCount {p : Program} {l : Launch} {e : Env} {s : State} {m : MethodId} {args : Array Value} {below : List Frame} {meth : Method} {c : Code} {Q : State → Prop} {D : va_G} {C : Nat → ClassId} {cD : ClassId} {K KR : Nat → Nat} {A : Nat → Prop} {adK adV : Nat → Nat} {ao ad b L : Nat} {xs : Nat → Int32} {u : CSt} {v : MSt} {o : Int64} {od : UInt64} {cells slots i : Nat} (Z : LCx p l s m args c meth A D C cD K KR adK adV ao ad b L xs) (hI : INV u v) (hi : i + 8 ≤ L) (hcs : cells + 1 ≤ room_1.cells ∧ slots + 6 ≤ room_1.slots) (kk : NXT p l e s m args below meth c Q A D C cD K KR ao ad b i cells slots) : ZZ p l e room_1 s m args below meth c cells slots Q A (PL D C cD K KR ao ad u v o od) 10 (lvL b (K 0) (KR 0) ao ad i) [] 3515 := by
  obtain ⟨x1, e1⟩ : ∃ z : Int32, xs (i + 1) = z := ⟨_, rfl⟩
  obtain ⟨x2, e2⟩ : ∃ z : Int32, xs (i + 2) = z := ⟨_, rfl⟩
  refine zz_aload_n 3515 Z.1.1 1 dL_law_3515 rfl ?_
  refine zz_aload_n 3516 Z.1.1 0 dL_law_3516 rfl ?_
  refine zz_iload 3517 Z.1.1 5 dL_law_3517 rfl ?_
  refine zz_iconst 3519 Z.1.1 (v := nI 1) dL_law_3519 rfl ?_
  refine zz_iadd 3520 Z.1.1 (v := nI (i + 1)) dL_law_3520 (nI_add i 1) ?_
  refine lw_sld 3521 Z (j := i + 1) (by omega) e1 dL_law_3521 ?_
  refine zz_aload_n 3522 Z.1.1 0 dL_law_3522 rfl ?_
  refine zz_iload 3523 Z.1.1 5 dL_law_3523 rfl ?_
  refine zz_iconst 3525 Z.1.1 (v := nI 2) dL_law_3525 rfl ?_
  refine zz_iadd 3526 Z.1.1 (v := nI (i + 2)) dL_law_3526 (nI_add i 2) ?_
  refine lw_sld 3527 Z (j := i + 2) (by omega) e2 dL_law_3527 ?_
  refine zz_aload_n 3528 Z.1.1 3 dL_law_3528 rfl ?_
  obtain ⟨kc, rb, o', CU, RV, postR, hW, hR, hp, hq, hk, hv⟩ := pr_unionCount l Z.2.2.1 D C cD K KR adK adV ao Z.2.2.2.2.2.1.1.1 Z.2.2.2.2.2.1.1.2 Z.2.2.2.2.2.1.aoD u v o hI x1 x2
  refine lw_callW 3529 Z (na := 4) (As := [.int x1, .int x2]) hW gL_law_L_unionCount rfl ⟨rfl, rfl⟩ (by decide +kernel) ⟨Nat.le_of_ble_eq_true rfl, Nat.le_of_ble_eq_true rfl⟩ rfl rfl (Nat.le_of_ble_eq_true rfl) hcs dL_law_3529 ?_
  rintro r ⟨q1, q2⟩ ⟨er, eo, hC⟩
  replace eo : q2 = o' := eo
  replace hC : CU q1 := hC
  rw [er]
  refine zz_world (P' := (PL D C cD K KR ao ad q1 v q2 od)) (fun _ h => h) ?_
  refine zz_istore 3532 Z.1.1 (lv' := [(6, .int (nI kc)), (0, .ref b), (1, .ref (K 0)), (2, .ref (KR 0)), (3, .ref ao), (4, .ref ad), (5, .int (nI i))]) dL_law_3532 (by decide) rfl ?_
  refine zz_aload_n 3534 Z.1.1 3 dL_law_3534 rfl ?_
  refine zz_aload_n 3535 Z.1.1 1 dL_law_3535 rfl ?_
  refine zz_iload 3536 Z.1.1 6 dL_law_3536 rfl ?_
  refine zz_iconst 3538 Z.1.1 (v := nI 1) dL_law_3538 rfl ?_
  refine zz_iadd 3539 Z.1.1 (v := nI (i + 1)) dL_law_3539 (nI_add i 1) ?_
  refine lw_sld 3540 Z (j := i + 1) (by omega) e1 dL_law_3540 ?_
  refine zz_aload_n 3541 Z.1.1 1 dL_law_3541 rfl ?_
  refine zz_iload 3542 Z.1.1 6 dL_law_3542 rfl ?_
  refine zz_iconst 3544 Z.1.1 (v := nI 2) dL_law_3544 rfl ?_
  refine zz_iadd 3545 Z.1.1 (v := nI (i + 2)) dL_law_3545 (nI_add i 2) ?_
  refine lw_sld 3546 Z (j := i + 2) (by omega) e2 dL_law_3546 ?_
  refine lw_callRi 3547 Z (As := [.int x1, .int x2]) hR gL_law_X7_unionCount rfl ⟨rfl, rfl⟩ yd_X7_unionCount ⟨Nat.le_of_ble_eq_true rfl, Nat.le_of_ble_eq_true rfl⟩ rfl rfl (Nat.le_of_ble_eq_true rfl) hcs dL_law_3547 ?_
  intro r2 w hw2
  obtain ⟨er2, hV⟩ := hp r2 w hw2
  rw [er2]
  have hIN := hq q1 w hC hV
  refine zz_istore 3550 Z.1.1 (lv' := [(7, .int rb), (6, .int (nI kc)), (0, .ref b), (1, .ref (K 0)), (2, .ref (KR 0)), (3, .ref ao), (4, .ref ad), (5, .int (nI i))]) dL_law_3550 (by decide) rfl ?_
  refine zz_aload_n 3552 Z.1.1 4 dL_law_3552 rfl ?_
  refine lw_callRi 3553 Z (As := []) (kt_X7_thrown l D C KR Z.2.2.2.2.2.1.1.2 w.1 w.2.1 w.2.2.1 w.2.2.2 kc hIN.1) gL_law_X7_thrown rfl ⟨rfl, rfl⟩ yd_X7_thrown ⟨Nat.le_of_ble_eq_true rfl, Nat.le_of_ble_eq_true rfl⟩ rfl rfl (Nat.le_of_ble_eq_true rfl) hcs dL_law_3553 ?_
  rintro r3 w3 ⟨er3, ew3⟩
  subst ew3
  rw [er3]
  refine zz_world (P' := (PL D C cD K KR ao ad q1 w q2 od)) (fun _ h => h) ?_
  refine zz_iload 3556 Z.1.1 1 dL_law_3556 rfl ?_
  refine zz_icmp_eq 3558 3563 Z.1.1 (nI_toInt (by omega)) (nI_toInt (by omega)) dL_law_3558 (by decide) (fun h => ?_) (fun h => ?_)
  · skip
    refine zz_iload 3563 Z.1.1 1 dL_law_3563 rfl ?_
    refine zz_if_ne 3565 3580 Z.1.1 (nI_toInt (by omega)) dL_law_3565 (by decide) (fun h0 => ?_) (fun h0 => ?_)
    · skip
      refine zz_goto 3580 3988 Z.1.1 dL_law_3580 (by decide) ?_
      refine zz_lvs [2, 3, 4, 5, 6, 7] rfl ?_
      exact kk q1 w q2 od _ _ hIN.2 (by omega) (by omega)
    · skip
      have hv0 := hv (by omega)
      rw [← eo] at hv0
      refine zz_aload_n 3568 Z.1.1 5 dL_law_3568 rfl ?_
      refine zz_iconst 3569 Z.1.1 (v := nI 0) dL_law_3569 rfl ?_
      refine lw_lld 3570 Z dL_law_3570 ?_
      refine zz_iload 3571 Z.1.1 0 dL_law_3571 rfl ?_
      refine zz_i2l 3573 Z.1.1 dL_law_3573 rfl ?_
      refine zz_lcmp 3574 Z.1.1 dL_law_3574 ?_
      refine zz_ifL_eq 3575 3580 Z.1.1 dL_law_3575 (by decide) (fun h => ?_) (fun h => ?_)
      · skip
        refine zz_goto 3580 3988 Z.1.1 dL_law_3580 (by decide) ?_
        refine zz_lvs [2, 3, 4, 5, 6, 7] rfl ?_
        exact kk q1 w q2 od _ _ hIN.2 (by omega) (by omega)
      · exact absurd (hv0) h
  · exact absurd rfl h

set_option maxHeartbeats 8000000 in
set_option maxRecDepth 100000 in
theorem cs_distance {p : Program} {l : Launch} {e : Env} {s : State} {m : MethodId} {args : Array Value} {below : List Frame} {meth : Method} {c : Code} {Q : State → Prop} {D : va_G} {C : Nat → ClassId} {cD : ClassId} {K KR : Nat → Nat} {A : Nat → Prop} {adK adV : Nat → Nat} {ao ad b L : Nat} {xs : Nat → Int32} {u : CSt} {v : MSt} {o : Int64} {od : UInt64} {cells slots i : Nat} (Z : LCx p l s m args c meth A D C cD K KR adK adV ao ad b L xs) (hI : INV u v) (hi : i + 8 ≤ L) (hcs : cells + 1 ≤ room_1.cells ∧ slots + 6 ≤ room_1.slots) (kk : NXT p l e s m args below meth c Q A D C cD K KR ao ad b i cells slots) : ZZ p l e room_1 s m args below meth c cells slots Q A (PL D C cD K KR ao ad u v o od) 10 (lvL b (K 0) (KR 0) ao ad i) [] 3583 := by
  obtain ⟨x1, e1⟩ : ∃ z : Int32, xs (i + 1) = z := ⟨_, rfl⟩
  obtain ⟨x2, e2⟩ : ∃ z : Int32, xs (i + 2) = z := ⟨_, rfl⟩
  refine zz_aload_n 3583 Z.1.1 1 dL_law_3583 rfl ?_
  refine zz_aload_n 3584 Z.1.1 0 dL_law_3584 rfl ?_
  refine zz_iload 3585 Z.1.1 5 dL_law_3585 rfl ?_
  refine zz_iconst 3587 Z.1.1 (v := nI 1) dL_law_3587 rfl ?_
  refine zz_iadd 3588 Z.1.1 (v := nI (i + 1)) dL_law_3588 (nI_add i 1) ?_
  refine lw_sld 3589 Z (j := i + 1) (by omega) e1 dL_law_3589 ?_
  refine zz_aload_n 3590 Z.1.1 0 dL_law_3590 rfl ?_
  refine zz_iload 3591 Z.1.1 5 dL_law_3591 rfl ?_
  refine zz_iconst 3593 Z.1.1 (v := nI 2) dL_law_3593 rfl ?_
  refine zz_iadd 3594 Z.1.1 (v := nI (i + 2)) dL_law_3594 (nI_add i 2) ?_
  refine lw_sld 3595 Z (j := i + 2) (by omega) e2 dL_law_3595 ?_
  refine zz_aload_n 3596 Z.1.1 3 dL_law_3596 rfl ?_
  obtain ⟨kc, rb, o', CU, RV, postR, hW, hR, hp, hq, hk, hv⟩ := pr_distance l Z.2.2.1 D C cD K KR adK adV ao Z.2.2.2.2.2.1.1.1 Z.2.2.2.2.2.1.1.2 Z.2.2.2.2.2.1.aoD u v o hI x1 x2
  refine lw_callW 3597 Z (na := 4) (As := [.int x1, .int x2]) hW gL_law_L_distance rfl ⟨rfl, rfl⟩ (by decide +kernel) ⟨Nat.le_of_ble_eq_true rfl, Nat.le_of_ble_eq_true rfl⟩ rfl rfl (Nat.le_of_ble_eq_true rfl) hcs dL_law_3597 ?_
  rintro r ⟨q1, q2⟩ ⟨er, eo, hC⟩
  replace eo : q2 = o' := eo
  replace hC : CU q1 := hC
  rw [er]
  refine zz_world (P' := (PL D C cD K KR ao ad q1 v q2 od)) (fun _ h => h) ?_
  refine zz_istore 3600 Z.1.1 (lv' := [(6, .int (nI kc)), (0, .ref b), (1, .ref (K 0)), (2, .ref (KR 0)), (3, .ref ao), (4, .ref ad), (5, .int (nI i))]) dL_law_3600 (by decide) rfl ?_
  refine zz_aload_n 3602 Z.1.1 3 dL_law_3602 rfl ?_
  refine zz_aload_n 3603 Z.1.1 1 dL_law_3603 rfl ?_
  refine zz_iload 3604 Z.1.1 6 dL_law_3604 rfl ?_
  refine zz_iconst 3606 Z.1.1 (v := nI 1) dL_law_3606 rfl ?_
  refine zz_iadd 3607 Z.1.1 (v := nI (i + 1)) dL_law_3607 (nI_add i 1) ?_
  refine lw_sld 3608 Z (j := i + 1) (by omega) e1 dL_law_3608 ?_
  refine zz_aload_n 3609 Z.1.1 1 dL_law_3609 rfl ?_
  refine zz_iload 3610 Z.1.1 6 dL_law_3610 rfl ?_
  refine zz_iconst 3612 Z.1.1 (v := nI 2) dL_law_3612 rfl ?_
  refine zz_iadd 3613 Z.1.1 (v := nI (i + 2)) dL_law_3613 (nI_add i 2) ?_
  refine lw_sld 3614 Z (j := i + 2) (by omega) e2 dL_law_3614 ?_
  refine lw_callRi 3615 Z (As := [.int x1, .int x2]) hR gL_law_X7_distance rfl ⟨rfl, rfl⟩ yd_X7_distance ⟨Nat.le_of_ble_eq_true rfl, Nat.le_of_ble_eq_true rfl⟩ rfl rfl (Nat.le_of_ble_eq_true rfl) hcs dL_law_3615 ?_
  intro r2 w hw2
  obtain ⟨er2, hV⟩ := hp r2 w hw2
  rw [er2]
  have hIN := hq q1 w hC hV
  refine zz_istore 3618 Z.1.1 (lv' := [(7, .int rb), (6, .int (nI kc)), (0, .ref b), (1, .ref (K 0)), (2, .ref (KR 0)), (3, .ref ao), (4, .ref ad), (5, .int (nI i))]) dL_law_3618 (by decide) rfl ?_
  refine zz_aload_n 3620 Z.1.1 4 dL_law_3620 rfl ?_
  refine lw_callRi 3621 Z (As := []) (kt_X7_thrown l D C KR Z.2.2.2.2.2.1.1.2 w.1 w.2.1 w.2.2.1 w.2.2.2 kc hIN.1) gL_law_X7_thrown rfl ⟨rfl, rfl⟩ yd_X7_thrown ⟨Nat.le_of_ble_eq_true rfl, Nat.le_of_ble_eq_true rfl⟩ rfl rfl (Nat.le_of_ble_eq_true rfl) hcs dL_law_3621 ?_
  rintro r3 w3 ⟨er3, ew3⟩
  subst ew3
  rw [er3]
  refine zz_world (P' := (PL D C cD K KR ao ad q1 w q2 od)) (fun _ h => h) ?_
  refine zz_iload 3624 Z.1.1 1 dL_law_3624 rfl ?_
  refine zz_icmp_eq 3626 3631 Z.1.1 (nI_toInt (by omega)) (nI_toInt (by omega)) dL_law_3626 (by decide) (fun h => ?_) (fun h => ?_)
  · skip
    refine zz_iload 3631 Z.1.1 1 dL_law_3631 rfl ?_
    refine zz_if_ne 3633 3648 Z.1.1 (nI_toInt (by omega)) dL_law_3633 (by decide) (fun h0 => ?_) (fun h0 => ?_)
    · skip
      refine zz_goto 3648 3988 Z.1.1 dL_law_3648 (by decide) ?_
      refine zz_lvs [2, 3, 4, 5, 6, 7] rfl ?_
      exact kk q1 w q2 od _ _ hIN.2 (by omega) (by omega)
    · skip
      have hv0 := hv (by omega)
      rw [← eo] at hv0
      refine zz_aload_n 3636 Z.1.1 5 dL_law_3636 rfl ?_
      refine zz_iconst 3637 Z.1.1 (v := nI 0) dL_law_3637 rfl ?_
      refine lw_lld 3638 Z dL_law_3638 ?_
      refine zz_iload 3639 Z.1.1 0 dL_law_3639 rfl ?_
      refine zz_i2l 3641 Z.1.1 dL_law_3641 rfl ?_
      refine zz_lcmp 3642 Z.1.1 dL_law_3642 ?_
      refine zz_ifL_eq 3643 3648 Z.1.1 dL_law_3643 (by decide) (fun h => ?_) (fun h => ?_)
      · skip
        refine zz_goto 3648 3988 Z.1.1 dL_law_3648 (by decide) ?_
        refine zz_lvs [2, 3, 4, 5, 6, 7] rfl ?_
        exact kk q1 w q2 od _ _ hIN.2 (by omega) (by omega)
      · exact absurd (hv0) h
  · exact absurd rfl h

set_option maxHeartbeats 8000000 in
set_option maxRecDepth 100000 in
theorem cs_firstCommon {p : Program} {l : Launch} {e : Env} {s : State} {m : MethodId} {args : Array Value} {below : List Frame} {meth : Method} {c : Code} {Q : State → Prop} {D : va_G} {C : Nat → ClassId} {cD : ClassId} {K KR : Nat → Nat} {A : Nat → Prop} {adK adV : Nat → Nat} {ao ad b L : Nat} {xs : Nat → Int32} {u : CSt} {v : MSt} {o : Int64} {od : UInt64} {cells slots i : Nat} (Z : LCx p l s m args c meth A D C cD K KR adK adV ao ad b L xs) (hI : INV u v) (hi : i + 8 ≤ L) (hcs : cells + 1 ≤ room_1.cells ∧ slots + 6 ≤ room_1.slots) (kk : NXT p l e s m args below meth c Q A D C cD K KR ao ad b i cells slots) : ZZ p l e room_1 s m args below meth c cells slots Q A (PL D C cD K KR ao ad u v o od) 10 (lvL b (K 0) (KR 0) ao ad i) [] 3651 := by
  obtain ⟨x1, e1⟩ : ∃ z : Int32, xs (i + 1) = z := ⟨_, rfl⟩
  obtain ⟨x2, e2⟩ : ∃ z : Int32, xs (i + 2) = z := ⟨_, rfl⟩
  refine zz_aload_n 3651 Z.1.1 1 dL_law_3651 rfl ?_
  refine zz_aload_n 3652 Z.1.1 0 dL_law_3652 rfl ?_
  refine zz_iload 3653 Z.1.1 5 dL_law_3653 rfl ?_
  refine zz_iconst 3655 Z.1.1 (v := nI 1) dL_law_3655 rfl ?_
  refine zz_iadd 3656 Z.1.1 (v := nI (i + 1)) dL_law_3656 (nI_add i 1) ?_
  refine lw_sld 3657 Z (j := i + 1) (by omega) e1 dL_law_3657 ?_
  refine zz_aload_n 3658 Z.1.1 0 dL_law_3658 rfl ?_
  refine zz_iload 3659 Z.1.1 5 dL_law_3659 rfl ?_
  refine zz_iconst 3661 Z.1.1 (v := nI 2) dL_law_3661 rfl ?_
  refine zz_iadd 3662 Z.1.1 (v := nI (i + 2)) dL_law_3662 (nI_add i 2) ?_
  refine lw_sld 3663 Z (j := i + 2) (by omega) e2 dL_law_3663 ?_
  refine zz_aload_n 3664 Z.1.1 3 dL_law_3664 rfl ?_
  obtain ⟨kc, rb, o', CU, RV, postR, hW, hR, hp, hq, hk, hv⟩ := pr_firstCommon l Z.2.2.1 D C cD K KR adK adV ao Z.2.2.2.2.2.1.1.1 Z.2.2.2.2.2.1.1.2 Z.2.2.2.2.2.1.aoD u v o hI x1 x2
  refine lw_callW 3665 Z (na := 4) (As := [.int x1, .int x2]) hW gL_law_L_firstCommon rfl ⟨rfl, rfl⟩ (by decide +kernel) ⟨Nat.le_of_ble_eq_true rfl, Nat.le_of_ble_eq_true rfl⟩ rfl rfl (Nat.le_of_ble_eq_true rfl) hcs dL_law_3665 ?_
  rintro r ⟨q1, q2⟩ ⟨er, eo, hC⟩
  replace eo : q2 = o' := eo
  replace hC : CU q1 := hC
  rw [er]
  refine zz_world (P' := (PL D C cD K KR ao ad q1 v q2 od)) (fun _ h => h) ?_
  refine zz_istore 3668 Z.1.1 (lv' := [(6, .int (nI kc)), (0, .ref b), (1, .ref (K 0)), (2, .ref (KR 0)), (3, .ref ao), (4, .ref ad), (5, .int (nI i))]) dL_law_3668 (by decide) rfl ?_
  refine zz_aload_n 3670 Z.1.1 3 dL_law_3670 rfl ?_
  refine zz_aload_n 3671 Z.1.1 1 dL_law_3671 rfl ?_
  refine zz_iload 3672 Z.1.1 6 dL_law_3672 rfl ?_
  refine zz_iconst 3674 Z.1.1 (v := nI 1) dL_law_3674 rfl ?_
  refine zz_iadd 3675 Z.1.1 (v := nI (i + 1)) dL_law_3675 (nI_add i 1) ?_
  refine lw_sld 3676 Z (j := i + 1) (by omega) e1 dL_law_3676 ?_
  refine zz_aload_n 3677 Z.1.1 1 dL_law_3677 rfl ?_
  refine zz_iload 3678 Z.1.1 6 dL_law_3678 rfl ?_
  refine zz_iconst 3680 Z.1.1 (v := nI 2) dL_law_3680 rfl ?_
  refine zz_iadd 3681 Z.1.1 (v := nI (i + 2)) dL_law_3681 (nI_add i 2) ?_
  refine lw_sld 3682 Z (j := i + 2) (by omega) e2 dL_law_3682 ?_
  refine lw_callRi 3683 Z (As := [.int x1, .int x2]) hR gL_law_X7_firstCommon rfl ⟨rfl, rfl⟩ yd_X7_firstCommon ⟨Nat.le_of_ble_eq_true rfl, Nat.le_of_ble_eq_true rfl⟩ rfl rfl (Nat.le_of_ble_eq_true rfl) hcs dL_law_3683 ?_
  intro r2 w hw2
  obtain ⟨er2, hV⟩ := hp r2 w hw2
  rw [er2]
  have hIN := hq q1 w hC hV
  refine zz_istore 3686 Z.1.1 (lv' := [(7, .int rb), (6, .int (nI kc)), (0, .ref b), (1, .ref (K 0)), (2, .ref (KR 0)), (3, .ref ao), (4, .ref ad), (5, .int (nI i))]) dL_law_3686 (by decide) rfl ?_
  refine zz_aload_n 3688 Z.1.1 4 dL_law_3688 rfl ?_
  refine lw_callRi 3689 Z (As := []) (kt_X7_thrown l D C KR Z.2.2.2.2.2.1.1.2 w.1 w.2.1 w.2.2.1 w.2.2.2 kc hIN.1) gL_law_X7_thrown rfl ⟨rfl, rfl⟩ yd_X7_thrown ⟨Nat.le_of_ble_eq_true rfl, Nat.le_of_ble_eq_true rfl⟩ rfl rfl (Nat.le_of_ble_eq_true rfl) hcs dL_law_3689 ?_
  rintro r3 w3 ⟨er3, ew3⟩
  subst ew3
  rw [er3]
  refine zz_world (P' := (PL D C cD K KR ao ad q1 w q2 od)) (fun _ h => h) ?_
  refine zz_iload 3692 Z.1.1 1 dL_law_3692 rfl ?_
  refine zz_icmp_eq 3694 3699 Z.1.1 (nI_toInt (by omega)) (nI_toInt (by omega)) dL_law_3694 (by decide) (fun h => ?_) (fun h => ?_)
  · skip
    refine zz_iload 3699 Z.1.1 1 dL_law_3699 rfl ?_
    refine zz_if_ne 3701 3716 Z.1.1 (nI_toInt (by omega)) dL_law_3701 (by decide) (fun h0 => ?_) (fun h0 => ?_)
    · skip
      refine zz_goto 3716 3988 Z.1.1 dL_law_3716 (by decide) ?_
      refine zz_lvs [2, 3, 4, 5, 6, 7] rfl ?_
      exact kk q1 w q2 od _ _ hIN.2 (by omega) (by omega)
    · skip
      have hv0 := hv (by omega)
      rw [← eo] at hv0
      refine zz_aload_n 3704 Z.1.1 5 dL_law_3704 rfl ?_
      refine zz_iconst 3705 Z.1.1 (v := nI 0) dL_law_3705 rfl ?_
      refine lw_lld 3706 Z dL_law_3706 ?_
      refine zz_iload 3707 Z.1.1 0 dL_law_3707 rfl ?_
      refine zz_i2l 3709 Z.1.1 dL_law_3709 rfl ?_
      refine zz_lcmp 3710 Z.1.1 dL_law_3710 ?_
      refine zz_ifL_eq 3711 3716 Z.1.1 dL_law_3711 (by decide) (fun h => ?_) (fun h => ?_)
      · skip
        refine zz_goto 3716 3988 Z.1.1 dL_law_3716 (by decide) ?_
        refine zz_lvs [2, 3, 4, 5, 6, 7] rfl ?_
        exact kk q1 w q2 od _ _ hIN.2 (by omega) (by omega)
      · exact absurd (hv0) h
  · exact absurd rfl h

set_option maxHeartbeats 8000000 in
set_option maxRecDepth 100000 in
theorem cs_write {p : Program} {l : Launch} {e : Env} {s : State} {m : MethodId} {args : Array Value} {below : List Frame} {meth : Method} {c : Code} {Q : State → Prop} {D : va_G} {C : Nat → ClassId} {cD : ClassId} {K KR : Nat → Nat} {A : Nat → Prop} {adK adV : Nat → Nat} {ao ad b L : Nat} {xs : Nat → Int32} {u : CSt} {v : MSt} {o : Int64} {od : UInt64} {cells slots i : Nat} (Z : LCx p l s m args c meth A D C cD K KR adK adV ao ad b L xs) (hI : INV u v) (hi : i + 8 ≤ L) (hcs : cells + 1 ≤ room_1.cells ∧ slots + 6 ≤ room_1.slots) (kk : NXT p l e s m args below meth c Q A D C cD K KR ao ad b i cells slots) : ZZ p l e room_1 s m args below meth c cells slots Q A (PL D C cD K KR ao ad u v o od) 10 (lvL b (K 0) (KR 0) ao ad i) [] 3719 := by
  obtain ⟨x1, e1⟩ : ∃ z : Int32, xs (i + 1) = z := ⟨_, rfl⟩
  refine zz_aload_n 3719 Z.1.1 1 dL_law_3719 rfl ?_
  refine zz_aload_n 3720 Z.1.1 0 dL_law_3720 rfl ?_
  refine zz_iload 3721 Z.1.1 5 dL_law_3721 rfl ?_
  refine zz_iconst 3723 Z.1.1 (v := nI 1) dL_law_3723 rfl ?_
  refine zz_iadd 3724 Z.1.1 (v := nI (i + 1)) dL_law_3724 (nI_add i 1) ?_
  refine lw_sld 3725 Z (j := i + 1) (by omega) e1 dL_law_3725 ?_
  refine zz_aload_n 3726 Z.1.1 3 dL_law_3726 rfl ?_
  obtain ⟨kc, rb, o', CU, RV, postR, hW, hR, hp, hq, hk, hv⟩ := pr_write l Z.2.2.1 D C cD K KR adK adV ao Z.2.2.2.2.2.1.1.1 Z.2.2.2.2.2.1.1.2 Z.2.2.2.2.2.1.aoD u v o hI x1
  refine lw_callW 3727 Z (na := 3) (As := [.int x1]) hW gL_law_L_write rfl ⟨rfl, rfl⟩ (by decide +kernel) ⟨Nat.le_of_ble_eq_true rfl, Nat.le_of_ble_eq_true rfl⟩ rfl rfl (Nat.le_of_ble_eq_true rfl) hcs dL_law_3727 ?_
  rintro r ⟨q1, q2⟩ ⟨er, eo, hC⟩
  replace eo : q2 = o' := eo
  replace hC : CU q1 := hC
  rw [er]
  refine zz_world (P' := (PL D C cD K KR ao ad q1 v q2 od)) (fun _ h => h) ?_
  refine zz_istore 3730 Z.1.1 (lv' := [(6, .int (nI kc)), (0, .ref b), (1, .ref (K 0)), (2, .ref (KR 0)), (3, .ref ao), (4, .ref ad), (5, .int (nI i))]) dL_law_3730 (by decide) rfl ?_
  refine zz_aload_n 3732 Z.1.1 3 dL_law_3732 rfl ?_
  refine zz_aload_n 3733 Z.1.1 1 dL_law_3733 rfl ?_
  refine zz_iload 3734 Z.1.1 6 dL_law_3734 rfl ?_
  refine zz_iconst 3736 Z.1.1 (v := nI 1) dL_law_3736 rfl ?_
  refine zz_iadd 3737 Z.1.1 (v := nI (i + 1)) dL_law_3737 (nI_add i 1) ?_
  refine lw_sld 3738 Z (j := i + 1) (by omega) e1 dL_law_3738 ?_
  refine lw_callRi 3739 Z (As := [.int x1]) hR gL_law_X7_write rfl ⟨rfl, rfl⟩ yd_X7_write ⟨Nat.le_of_ble_eq_true rfl, Nat.le_of_ble_eq_true rfl⟩ rfl rfl (Nat.le_of_ble_eq_true rfl) hcs dL_law_3739 ?_
  intro r2 w hw2
  obtain ⟨er2, hV⟩ := hp r2 w hw2
  rw [er2]
  have hIN := hq q1 w hC hV
  refine zz_istore 3742 Z.1.1 (lv' := [(7, .int rb), (6, .int (nI kc)), (0, .ref b), (1, .ref (K 0)), (2, .ref (KR 0)), (3, .ref ao), (4, .ref ad), (5, .int (nI i))]) dL_law_3742 (by decide) rfl ?_
  refine zz_aload_n 3744 Z.1.1 4 dL_law_3744 rfl ?_
  refine lw_callRi 3745 Z (As := []) (kt_X7_thrown l D C KR Z.2.2.2.2.2.1.1.2 w.1 w.2.1 w.2.2.1 w.2.2.2 kc hIN.1) gL_law_X7_thrown rfl ⟨rfl, rfl⟩ yd_X7_thrown ⟨Nat.le_of_ble_eq_true rfl, Nat.le_of_ble_eq_true rfl⟩ rfl rfl (Nat.le_of_ble_eq_true rfl) hcs dL_law_3745 ?_
  rintro r3 w3 ⟨er3, ew3⟩
  subst ew3
  rw [er3]
  refine zz_world (P' := (PL D C cD K KR ao ad q1 w q2 od)) (fun _ h => h) ?_
  refine zz_iload 3748 Z.1.1 1 dL_law_3748 rfl ?_
  refine zz_icmp_eq 3750 3755 Z.1.1 (nI_toInt (by omega)) (nI_toInt (by omega)) dL_law_3750 (by decide) (fun h => ?_) (fun h => ?_)
  · skip
    refine zz_iload 3755 Z.1.1 1 dL_law_3755 rfl ?_
    refine zz_if_ne 3757 3772 Z.1.1 (nI_toInt (by omega)) dL_law_3757 (by decide) (fun h0 => ?_) (fun h0 => ?_)
    · skip
      refine zz_goto 3772 3988 Z.1.1 dL_law_3772 (by decide) ?_
      refine zz_lvs [2, 3, 4, 5, 6, 7] rfl ?_
      exact kk q1 w q2 od _ _ hIN.2 (by omega) (by omega)
    · skip
      have hv0 := hv (by omega)
      rw [← eo] at hv0
      refine zz_aload_n 3760 Z.1.1 5 dL_law_3760 rfl ?_
      refine zz_iconst 3761 Z.1.1 (v := nI 0) dL_law_3761 rfl ?_
      refine lw_lld 3762 Z dL_law_3762 ?_
      refine zz_iload 3763 Z.1.1 0 dL_law_3763 rfl ?_
      refine zz_i2l 3765 Z.1.1 dL_law_3765 rfl ?_
      refine zz_lcmp 3766 Z.1.1 dL_law_3766 ?_
      refine zz_ifL_eq 3767 3772 Z.1.1 dL_law_3767 (by decide) (fun h => ?_) (fun h => ?_)
      · skip
        refine zz_goto 3772 3988 Z.1.1 dL_law_3772 (by decide) ?_
        refine zz_lvs [2, 3, 4, 5, 6, 7] rfl ?_
        exact kk q1 w q2 od _ _ hIN.2 (by omega) (by omega)
      · exact absurd (hv0) h
  · exact absurd rfl h

set_option maxHeartbeats 8000000 in
set_option maxRecDepth 100000 in
theorem cs_writtenAt {p : Program} {l : Launch} {e : Env} {s : State} {m : MethodId} {args : Array Value} {below : List Frame} {meth : Method} {c : Code} {Q : State → Prop} {D : va_G} {C : Nat → ClassId} {cD : ClassId} {K KR : Nat → Nat} {A : Nat → Prop} {adK adV : Nat → Nat} {ao ad b L : Nat} {xs : Nat → Int32} {u : CSt} {v : MSt} {o : Int64} {od : UInt64} {cells slots i : Nat} (Z : LCx p l s m args c meth A D C cD K KR adK adV ao ad b L xs) (hI : INV u v) (hi : i + 8 ≤ L) (hcs : cells + 1 ≤ room_1.cells ∧ slots + 6 ≤ room_1.slots) (kk : NXT p l e s m args below meth c Q A D C cD K KR ao ad b i cells slots) : ZZ p l e room_1 s m args below meth c cells slots Q A (PL D C cD K KR ao ad u v o od) 10 (lvL b (K 0) (KR 0) ao ad i) [] 3775 := by
  obtain ⟨x1, e1⟩ : ∃ z : Int32, xs (i + 1) = z := ⟨_, rfl⟩
  refine zz_aload_n 3775 Z.1.1 1 dL_law_3775 rfl ?_
  refine zz_aload_n 3776 Z.1.1 0 dL_law_3776 rfl ?_
  refine zz_iload 3777 Z.1.1 5 dL_law_3777 rfl ?_
  refine zz_iconst 3779 Z.1.1 (v := nI 1) dL_law_3779 rfl ?_
  refine zz_iadd 3780 Z.1.1 (v := nI (i + 1)) dL_law_3780 (nI_add i 1) ?_
  refine lw_sld 3781 Z (j := i + 1) (by omega) e1 dL_law_3781 ?_
  refine zz_aload_n 3782 Z.1.1 3 dL_law_3782 rfl ?_
  obtain ⟨kc, rb, o', CU, RV, postR, hW, hR, hp, hq, hk, hv⟩ := pr_writtenAt l Z.2.2.1 D C cD K KR adK adV ao Z.2.2.2.2.2.1.1.1 Z.2.2.2.2.2.1.1.2 Z.2.2.2.2.2.1.aoD u v o hI x1
  refine lw_callW 3783 Z (na := 3) (As := [.int x1]) hW gL_law_L_writtenAt rfl ⟨rfl, rfl⟩ (by decide +kernel) ⟨Nat.le_of_ble_eq_true rfl, Nat.le_of_ble_eq_true rfl⟩ rfl rfl (Nat.le_of_ble_eq_true rfl) hcs dL_law_3783 ?_
  rintro r ⟨q1, q2⟩ ⟨er, eo, hC⟩
  replace eo : q2 = o' := eo
  replace hC : CU q1 := hC
  rw [er]
  refine zz_world (P' := (PL D C cD K KR ao ad q1 v q2 od)) (fun _ h => h) ?_
  refine zz_istore 3786 Z.1.1 (lv' := [(6, .int (nI kc)), (0, .ref b), (1, .ref (K 0)), (2, .ref (KR 0)), (3, .ref ao), (4, .ref ad), (5, .int (nI i))]) dL_law_3786 (by decide) rfl ?_
  refine zz_aload_n 3788 Z.1.1 3 dL_law_3788 rfl ?_
  refine zz_aload_n 3789 Z.1.1 1 dL_law_3789 rfl ?_
  refine zz_iload 3790 Z.1.1 6 dL_law_3790 rfl ?_
  refine zz_iconst 3792 Z.1.1 (v := nI 1) dL_law_3792 rfl ?_
  refine zz_iadd 3793 Z.1.1 (v := nI (i + 1)) dL_law_3793 (nI_add i 1) ?_
  refine lw_sld 3794 Z (j := i + 1) (by omega) e1 dL_law_3794 ?_
  refine lw_callRi 3795 Z (As := [.int x1]) hR gL_law_X7_writtenAt rfl ⟨rfl, rfl⟩ yd_X7_writtenAt ⟨Nat.le_of_ble_eq_true rfl, Nat.le_of_ble_eq_true rfl⟩ rfl rfl (Nat.le_of_ble_eq_true rfl) hcs dL_law_3795 ?_
  intro r2 w hw2
  obtain ⟨er2, hV⟩ := hp r2 w hw2
  rw [er2]
  have hIN := hq q1 w hC hV
  refine zz_istore 3798 Z.1.1 (lv' := [(7, .int rb), (6, .int (nI kc)), (0, .ref b), (1, .ref (K 0)), (2, .ref (KR 0)), (3, .ref ao), (4, .ref ad), (5, .int (nI i))]) dL_law_3798 (by decide) rfl ?_
  refine zz_aload_n 3800 Z.1.1 4 dL_law_3800 rfl ?_
  refine lw_callRi 3801 Z (As := []) (kt_X7_thrown l D C KR Z.2.2.2.2.2.1.1.2 w.1 w.2.1 w.2.2.1 w.2.2.2 kc hIN.1) gL_law_X7_thrown rfl ⟨rfl, rfl⟩ yd_X7_thrown ⟨Nat.le_of_ble_eq_true rfl, Nat.le_of_ble_eq_true rfl⟩ rfl rfl (Nat.le_of_ble_eq_true rfl) hcs dL_law_3801 ?_
  rintro r3 w3 ⟨er3, ew3⟩
  subst ew3
  rw [er3]
  refine zz_world (P' := (PL D C cD K KR ao ad q1 w q2 od)) (fun _ h => h) ?_
  refine zz_iload 3804 Z.1.1 1 dL_law_3804 rfl ?_
  refine zz_icmp_eq 3806 3811 Z.1.1 (nI_toInt (by omega)) (nI_toInt (by omega)) dL_law_3806 (by decide) (fun h => ?_) (fun h => ?_)
  · skip
    refine zz_iload 3811 Z.1.1 1 dL_law_3811 rfl ?_
    refine zz_if_ne 3813 3828 Z.1.1 (nI_toInt (by omega)) dL_law_3813 (by decide) (fun h0 => ?_) (fun h0 => ?_)
    · skip
      refine zz_goto 3828 3988 Z.1.1 dL_law_3828 (by decide) ?_
      refine zz_lvs [2, 3, 4, 5, 6, 7] rfl ?_
      exact kk q1 w q2 od _ _ hIN.2 (by omega) (by omega)
    · skip
      have hv0 := hv (by omega)
      rw [← eo] at hv0
      refine zz_aload_n 3816 Z.1.1 5 dL_law_3816 rfl ?_
      refine zz_iconst 3817 Z.1.1 (v := nI 0) dL_law_3817 rfl ?_
      refine lw_lld 3818 Z dL_law_3818 ?_
      refine zz_iload 3819 Z.1.1 0 dL_law_3819 rfl ?_
      refine zz_i2l 3821 Z.1.1 dL_law_3821 rfl ?_
      refine zz_lcmp 3822 Z.1.1 dL_law_3822 ?_
      refine zz_ifL_eq 3823 3828 Z.1.1 dL_law_3823 (by decide) (fun h => ?_) (fun h => ?_)
      · skip
        refine zz_goto 3828 3988 Z.1.1 dL_law_3828 (by decide) ?_
        refine zz_lvs [2, 3, 4, 5, 6, 7] rfl ?_
        exact kk q1 w q2 od _ _ hIN.2 (by omega) (by omega)
      · exact absurd (hv0) h
  · exact absurd rfl h

set_option maxHeartbeats 8000000 in
set_option maxRecDepth 100000 in
theorem cs_refusals {p : Program} {l : Launch} {e : Env} {s : State} {m : MethodId} {args : Array Value} {below : List Frame} {meth : Method} {c : Code} {Q : State → Prop} {D : va_G} {C : Nat → ClassId} {cD : ClassId} {K KR : Nat → Nat} {A : Nat → Prop} {adK adV : Nat → Nat} {ao ad b L : Nat} {xs : Nat → Int32} {u : CSt} {v : MSt} {o : Int64} {od : UInt64} {cells slots i : Nat} (Z : LCx p l s m args c meth A D C cD K KR adK adV ao ad b L xs) (hI : INV u v) (hi : i + 8 ≤ L) (hcs : cells + 1 ≤ room_1.cells ∧ slots + 6 ≤ room_1.slots) (kk : NXT p l e s m args below meth c Q A D C cD K KR ao ad b i cells slots) : ZZ p l e room_1 s m args below meth c cells slots Q A (PL D C cD K KR ao ad u v o od) 10 (lvL b (K 0) (KR 0) ao ad i) [] 3831 := by
  refine zz_aload_n 3831 Z.1.1 1 dL_law_3831 rfl ?_
  refine lw_callCi 3832 Z (As := []) (kt_X6_refusals_ok l D C K Z.2.2.2.2.2.1.1.1 u.1 u.2.1 u.2.2.1 u.2.2.2) gL_law_X6_refusals rfl ⟨rfl, rfl⟩ yd_X6_refusals ⟨Nat.le_of_ble_eq_true rfl, Nat.le_of_ble_eq_true rfl⟩ rfl rfl (Nat.le_of_ble_eq_true rfl) ⟨Nat.le_trans (Nat.le_add_right _ 1) hcs.1, Nat.le_trans (Nat.le_add_right _ 6) hcs.2⟩ dL_law_3832 ?_
  rintro r1 q1 ⟨er1, eq1⟩
  subst eq1
  rw [er1]
  refine zz_world (P' := (PL D C cD K KR ao ad (u.1, u.2.1, u.2.2.1, u.2.2.2) v o od)) (fun _ h => h) ?_
  refine zz_aload_n 3835 Z.1.1 2 dL_law_3835 rfl ?_
  refine lw_callRi 3836 Z (As := []) (kt_X7_refusals l D C KR Z.2.2.2.2.2.1.1.2 v.1 v.2.1 v.2.2.1 v.2.2.2) gL_law_X7_refusals rfl ⟨rfl, rfl⟩ yd_X7_refusals ⟨Nat.le_of_ble_eq_true rfl, Nat.le_of_ble_eq_true rfl⟩ rfl rfl (Nat.le_of_ble_eq_true rfl) ⟨Nat.le_trans (Nat.le_add_right _ 1) hcs.1, Nat.le_trans (Nat.le_add_right _ 6) hcs.2⟩ dL_law_3836 ?_
  rintro r2 w ⟨er2, ew2⟩
  subst ew2
  rw [er2]
  refine zz_world (P' := (PL D C cD K KR ao ad (u.1, u.2.1, u.2.2.1, u.2.2.2) (upd v.1 0 (nI 0), v.2.1, v.2.2.1, v.2.2.2) o od)) (fun _ h => h) ?_
  refine zz_icmp_eq 3839 3988 Z.1.1 rfl rfl dL_law_3839 (by decide) (fun h => ?_) (fun h => ?_)
  · skip
    refine zz_lvs [0, 1, 2, 3, 4, 5] rfl ?_
    exact kk (u.1, u.2.1, u.2.2.1, u.2.2.2) (upd v.1 0 (nI 0), v.2.1, v.2.2.1, v.2.2.2) o od _ _ hI (by omega) (by omega)
  · exact absurd (congrArg Int32.toInt hI.2.1.1) h

set_option maxHeartbeats 8000000 in
set_option maxRecDepth 100000 in
theorem cs_meanCount {p : Program} {l : Launch} {e : Env} {s : State} {m : MethodId} {args : Array Value} {below : List Frame} {meth : Method} {c : Code} {Q : State → Prop} {D : va_G} {C : Nat → ClassId} {cD : ClassId} {K KR : Nat → Nat} {A : Nat → Prop} {adK adV : Nat → Nat} {ao ad b L : Nat} {xs : Nat → Int32} {u : CSt} {v : MSt} {o : Int64} {od : UInt64} {cells slots i : Nat} (Z : LCx p l s m args c meth A D C cD K KR adK adV ao ad b L xs) (hI : INV u v) (hi : i + 8 ≤ L) (hcs : cells + 1 ≤ room_1.cells ∧ slots + 6 ≤ room_1.slots) (kk : NXT p l e s m args below meth c Q A D C cD K KR ao ad b i cells slots) : ZZ p l e room_1 s m args below meth c cells slots Q A (PL D C cD K KR ao ad u v o od) 10 (lvL b (K 0) (KR 0) ao ad i) [] 3844 := by
  refine zz_aload_n 3844 Z.1.1 1 dL_law_3844 rfl ?_
  refine lw_callCd 3845 Z (As := []) (kt_X6_meanCount_ok l D C K Z.2.2.2.2.2.1.1.1 u.1 u.2.1 u.2.2.1 u.2.2.2) gL_law_X6_meanCount rfl ⟨rfl, rfl⟩ yd_X6_meanCount ⟨Nat.le_of_ble_eq_true rfl, Nat.le_of_ble_eq_true rfl⟩ rfl rfl (Nat.le_of_ble_eq_true rfl) ⟨Nat.le_trans (Nat.le_add_right _ 1) hcs.1, Nat.le_trans (Nat.le_add_right _ 6) hcs.2⟩ dL_law_3845 ?_
  rintro r1 q1 ⟨er1, eq1⟩
  subst eq1
  rw [er1]
  refine zz_world (P' := (PL D C cD K KR ao ad (u.1, u.2.1, u.2.2.1, u.2.2.2) v o od)) (fun _ h => h) ?_
  refine zf_dstore 3848 Z.1.1 (lv' := [(6, .double (FP.ddiv (FP.i2d (nI (sumc u.2.1 8))) 4620693217682128896)), (0, .ref b), (1, .ref (K 0)), (2, .ref (KR 0)), (3, .ref ao), (4, .ref ad), (5, .int (nI i))]) dL_law_3848 (by decide) rfl ?_
  refine zz_aload_n 3850 Z.1.1 3 dL_law_3850 rfl ?_
  refine lw_callRd 3851 Z (As := []) (kt_X7_meanCount_ok l D C KR Z.2.2.2.2.2.1.1.2 v.1 v.2.1 v.2.2.1 v.2.2.2) gL_law_X7_meanCount rfl ⟨rfl, rfl⟩ yd_X7_meanCount ⟨Nat.le_of_ble_eq_true rfl, Nat.le_of_ble_eq_true rfl⟩ rfl rfl (Nat.le_of_ble_eq_true rfl) ⟨Nat.le_trans (Nat.le_add_right _ 1) hcs.1, Nat.le_trans (Nat.le_add_right _ 6) hcs.2⟩ dL_law_3851 ?_
  rintro r2 w ⟨er2, ew2⟩
  subst ew2
  rw [er2]
  refine zz_world (P' := (PL D C cD K KR ao ad (u.1, u.2.1, u.2.2.1, u.2.2.2) (upd v.1 0 (nI 0), v.2.1, v.2.2.1, v.2.2.2) o od)) (fun _ h => h) ?_
  refine zf_dstore 3854 Z.1.1 (lv' := [(8, .double (FP.ddiv (FP.i2d (nI (sumc v.2.1 8))) 4620693217682128896)), (6, .double (FP.ddiv (FP.i2d (nI (sumc u.2.1 8))) 4620693217682128896)), (0, .ref b), (1, .ref (K 0)), (2, .ref (KR 0)), (3, .ref ao), (4, .ref ad), (5, .int (nI i))]) dL_law_3854 (by decide) rfl ?_
  refine zf_dload 3856 Z.1.1 1 dL_law_3856 rfl ?_
  refine zf_dload 3858 Z.1.1 0 dL_law_3858 rfl ?_
  refine zf_dcmp 3860 Z.1.1 (v := 0) dL_law_3860 (by rw [hI.1]; exact fl_deq fl_mean _) ?_
  refine zz_if_eq 3861 3882 Z.1.1 (by decide : (0 : Int32).toInt = 0) dL_law_3861 (by decide) (fun h => ?_) (fun h => ?_)
  · skip
    refine zz_goto 3882 3988 Z.1.1 dL_law_3882 (by decide) ?_
    refine zz_lvs [2, 3, 4, 5, 6, 7] rfl ?_
    exact kk (u.1, u.2.1, u.2.2.1, u.2.2.2) (upd v.1 0 (nI 0), v.2.1, v.2.2.1, v.2.2.2) o od _ _ hI (by omega) (by omega)
  · exact absurd rfl h

set_option maxHeartbeats 8000000 in
set_option maxRecDepth 100000 in
theorem cs_share {p : Program} {l : Launch} {e : Env} {s : State} {m : MethodId} {args : Array Value} {below : List Frame} {meth : Method} {c : Code} {Q : State → Prop} {D : va_G} {C : Nat → ClassId} {cD : ClassId} {K KR : Nat → Nat} {A : Nat → Prop} {adK adV : Nat → Nat} {ao ad b L : Nat} {xs : Nat → Int32} {u : CSt} {v : MSt} {o : Int64} {od : UInt64} {cells slots i : Nat} (Z : LCx p l s m args c meth A D C cD K KR adK adV ao ad b L xs) (hI : INV u v) (hi : i + 8 ≤ L) (hcs : cells + 1 ≤ room_1.cells ∧ slots + 6 ≤ room_1.slots) (kk : NXT p l e s m args below meth c Q A D C cD K KR ao ad b i cells slots) : ZZ p l e room_1 s m args below meth c cells slots Q A (PL D C cD K KR ao ad u v o od) 10 (lvL b (K 0) (KR 0) ao ad i) [] 3885 := by
  obtain ⟨x1, e1⟩ : ∃ z : Int32, xs (i + 1) = z := ⟨_, rfl⟩
  obtain ⟨x2, e2⟩ : ∃ z : Int32, xs (i + 2) = z := ⟨_, rfl⟩
  refine zz_aload_n 3885 Z.1.1 1 dL_law_3885 rfl ?_
  refine zz_aload_n 3886 Z.1.1 0 dL_law_3886 rfl ?_
  refine zz_iload 3887 Z.1.1 5 dL_law_3887 rfl ?_
  refine zz_iconst 3889 Z.1.1 (v := nI 1) dL_law_3889 rfl ?_
  refine zz_iadd 3890 Z.1.1 (v := nI (i + 1)) dL_law_3890 (nI_add i 1) ?_
  refine lw_sld 3891 Z (j := i + 1) (by omega) e1 dL_law_3891 ?_
  refine zz_aload_n 3892 Z.1.1 0 dL_law_3892 rfl ?_
  refine zz_iload 3893 Z.1.1 5 dL_law_3893 rfl ?_
  refine zz_iconst 3895 Z.1.1 (v := nI 2) dL_law_3895 rfl ?_
  refine zz_iadd 3896 Z.1.1 (v := nI (i + 2)) dL_law_3896 (nI_add i 2) ?_
  refine lw_sld 3897 Z (j := i + 2) (by omega) e2 dL_law_3897 ?_
  refine zz_aload 3898 Z.1.1 4 dL_law_3898 rfl ?_
  obtain ⟨kc, rb, o', CU, RV, postR, hW, hR, hp, hq, hk, hv⟩ := pr_share l Z.2.2.1 D C cD K KR adK adV ad Z.2.2.2.2.2.1.1.1 Z.2.2.2.2.2.1.1.2 Z.2.2.2.2.2.1.adD u v od hI x1 x2
  refine lw_callWd 3900 Z (na := 4) (As := [.int x1, .int x2]) hW gL_law_L_share rfl ⟨rfl, rfl⟩ (by decide +kernel) ⟨Nat.le_of_ble_eq_true rfl, Nat.le_of_ble_eq_true rfl⟩ rfl rfl (Nat.le_of_ble_eq_true rfl) hcs dL_law_3900 ?_
  rintro r ⟨q1, q2⟩ ⟨er, eo, hC⟩
  replace eo : q2 = o' := eo
  replace hC : CU q1 := hC
  rw [er]
  refine zz_world (P' := (PL D C cD K KR ao ad q1 v o q2)) (fun _ h => h) ?_
  refine zz_istore 3903 Z.1.1 (lv' := [(6, .int (nI kc)), (0, .ref b), (1, .ref (K 0)), (2, .ref (KR 0)), (3, .ref ao), (4, .ref ad), (5, .int (nI i))]) dL_law_3903 (by decide) rfl ?_
  refine zz_aload_n 3905 Z.1.1 3 dL_law_3905 rfl ?_
  refine zz_aload_n 3906 Z.1.1 1 dL_law_3906 rfl ?_
  refine zz_iload 3907 Z.1.1 6 dL_law_3907 rfl ?_
  refine zz_iconst 3909 Z.1.1 (v := nI 1) dL_law_3909 rfl ?_
  refine zz_iadd 3910 Z.1.1 (v := nI (i + 1)) dL_law_3910 (nI_add i 1) ?_
  refine lw_sld 3911 Z (j := i + 1) (by omega) e1 dL_law_3911 ?_
  refine zz_aload_n 3912 Z.1.1 1 dL_law_3912 rfl ?_
  refine zz_iload 3913 Z.1.1 6 dL_law_3913 rfl ?_
  refine zz_iconst 3915 Z.1.1 (v := nI 2) dL_law_3915 rfl ?_
  refine zz_iadd 3916 Z.1.1 (v := nI (i + 2)) dL_law_3916 (nI_add i 2) ?_
  refine lw_sld 3917 Z (j := i + 2) (by omega) e2 dL_law_3917 ?_
  refine lw_callRf 3918 Z (As := [.int x1, .int x2]) hR gL_law_X7_share rfl ⟨rfl, rfl⟩ yd_X7_share ⟨Nat.le_of_ble_eq_true rfl, Nat.le_of_ble_eq_true rfl⟩ rfl rfl (Nat.le_of_ble_eq_true rfl) hcs dL_law_3918 ?_
  intro r2 w hw2
  obtain ⟨er2, hV⟩ := hp r2 w hw2
  rw [er2]
  have hIN := hq q1 w hC hV
  refine zf_fstore 3921 Z.1.1 (lv' := [(7, .float rb), (6, .int (nI kc)), (0, .ref b), (1, .ref (K 0)), (2, .ref (KR 0)), (3, .ref ao), (4, .ref ad), (5, .int (nI i))]) dL_law_3921 (by decide) rfl ?_
  refine zz_aload_n 3923 Z.1.1 4 dL_law_3923 rfl ?_
  refine lw_callRi 3924 Z (As := []) (kt_X7_thrown l D C KR Z.2.2.2.2.2.1.1.2 w.1 w.2.1 w.2.2.1 w.2.2.2 kc hIN.1) gL_law_X7_thrown rfl ⟨rfl, rfl⟩ yd_X7_thrown ⟨Nat.le_of_ble_eq_true rfl, Nat.le_of_ble_eq_true rfl⟩ rfl rfl (Nat.le_of_ble_eq_true rfl) hcs dL_law_3924 ?_
  rintro r3 w3 ⟨er3, ew3⟩
  subst ew3
  rw [er3]
  refine zz_world (P' := (PL D C cD K KR ao ad q1 w o q2)) (fun _ h => h) ?_
  refine zz_iload 3927 Z.1.1 1 dL_law_3927 rfl ?_
  refine zz_icmp_eq 3929 3934 Z.1.1 (nI_toInt (by omega)) (nI_toInt (by omega)) dL_law_3929 (by decide) (fun h => ?_) (fun h => ?_)
  · skip
    refine zz_iload 3934 Z.1.1 1 dL_law_3934 rfl ?_
    refine zz_if_ne 3936 3972 Z.1.1 (nI_toInt (by omega)) dL_law_3936 (by decide) (fun h0 => ?_) (fun h0 => ?_)
    · skip
      refine zz_goto 3972 3988 Z.1.1 dL_law_3972 (by decide) ?_
      refine zz_lvs [2, 3, 4, 5, 6, 7] rfl ?_
      exact kk q1 w o q2 _ _ hIN.2 (by omega) (by omega)
    · skip
      have hv0 := hv (by omega)
      rw [← eo] at hv0
      refine zz_aload 3939 Z.1.1 6 dL_law_3939 rfl ?_
      refine zz_iconst 3941 Z.1.1 (v := nI 0) dL_law_3941 rfl ?_
      refine lw_dld 3942 Z dL_law_3942 ?_
      refine zf_fload 3943 Z.1.1 0 dL_law_3943 rfl ?_
      refine zf_f2d 3945 Z.1.1 (fl_f2d hv0.2) dL_law_3945 ?_
      refine zf_dcmp 3946 Z.1.1 (v := 0) dL_law_3946 (by rw [hv0.1]; exact fl_deq (fl_f2d hv0.2) _) ?_
      refine zz_if_eq 3947 3972 Z.1.1 (by decide : (0 : Int32).toInt = 0) dL_law_3947 (by decide) (fun h => ?_) (fun h => ?_)
      · skip
        refine zz_goto 3972 3988 Z.1.1 dL_law_3972 (by decide) ?_
        refine zz_lvs [2, 3, 4, 5, 6, 7] rfl ?_
        exact kk q1 w o q2 _ _ hIN.2 (by omega) (by omega)
      · exact absurd rfl h
  · exact absurd rfl h

set_option maxHeartbeats 8000000 in
set_option maxRecDepth 100000 in
theorem cs_errors {p : Program} {l : Launch} {e : Env} {s : State} {m : MethodId} {args : Array Value} {below : List Frame} {meth : Method} {c : Code} {Q : State → Prop} {D : va_G} {C : Nat → ClassId} {cD : ClassId} {K KR : Nat → Nat} {A : Nat → Prop} {adK adV : Nat → Nat} {ao ad b L : Nat} {xs : Nat → Int32} {u : CSt} {v : MSt} {o : Int64} {od : UInt64} {cells slots i : Nat} (Z : LCx p l s m args c meth A D C cD K KR adK adV ao ad b L xs) (hI : INV u v) (hi : i + 8 ≤ L) (hcs : cells + 1 ≤ room_1.cells ∧ slots + 6 ≤ room_1.slots) (kk : NXT p l e s m args below meth c Q A D C cD K KR ao ad b i cells slots) : ZZ p l e room_1 s m args below meth c cells slots Q A (PL D C cD K KR ao ad u v o od) 10 (lvL b (K 0) (KR 0) ao ad i) [] 3975 := by
  refine zz_aload_n 3975 Z.1.1 1 dL_law_3975 rfl ?_
  refine lw_callCi 3976 Z (As := []) (kt_X6_errors_ok l D C K Z.2.2.2.2.2.1.1.1 u.1 u.2.1 u.2.2.1 u.2.2.2) gL_law_X6_errors rfl ⟨rfl, rfl⟩ yd_X6_errors ⟨Nat.le_of_ble_eq_true rfl, Nat.le_of_ble_eq_true rfl⟩ rfl rfl (Nat.le_of_ble_eq_true rfl) ⟨Nat.le_trans (Nat.le_add_right _ 1) hcs.1, Nat.le_trans (Nat.le_add_right _ 6) hcs.2⟩ dL_law_3976 ?_
  rintro r1 q1 ⟨er1, eq1⟩
  subst eq1
  rw [er1]
  refine zz_world (P' := (PL D C cD K KR ao ad (u.1, u.2.1, u.2.2.1, u.2.2.2) v o od)) (fun _ h => h) ?_
  refine zz_aload_n 3979 Z.1.1 2 dL_law_3979 rfl ?_
  refine lw_callRi 3980 Z (As := []) (kt_X7_errors l D C KR Z.2.2.2.2.2.1.1.2 v.1 v.2.1 v.2.2.1 v.2.2.2) gL_law_X7_errors rfl ⟨rfl, rfl⟩ yd_X7_errors ⟨Nat.le_of_ble_eq_true rfl, Nat.le_of_ble_eq_true rfl⟩ rfl rfl (Nat.le_of_ble_eq_true rfl) ⟨Nat.le_trans (Nat.le_add_right _ 1) hcs.1, Nat.le_trans (Nat.le_add_right _ 6) hcs.2⟩ dL_law_3980 ?_
  rintro r2 w ⟨er2, ew2⟩
  subst ew2
  rw [er2]
  refine zz_world (P' := (PL D C cD K KR ao ad (u.1, u.2.1, u.2.2.1, u.2.2.2) (upd v.1 0 (nI 0), v.2.1, v.2.2.1, v.2.2.2) o od)) (fun _ h => h) ?_
  refine zz_icmp_eq 3983 3988 Z.1.1 rfl rfl dL_law_3983 (by decide) (fun h => ?_) (fun h => ?_)
  · skip
    refine zz_lvs [0, 1, 2, 3, 4, 5] rfl ?_
    exact kk (u.1, u.2.1, u.2.2.1, u.2.2.2) (upd v.1 0 (nI 0), v.2.1, v.2.2.1, v.2.2.2) o od _ _ hI (by omega) (by omega)
  · exact absurd (rfl) h
