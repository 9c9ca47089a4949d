set_option maxHeartbeats 8000000 in
set_option maxRecDepth 100000 in
theorem cs_renew {p : Program} {l : Launch} {e : Env} {s : State} {m : MethodId} {args : Array Value} {below : List Frame} {meth : Method} {c : Code} {Q : State → Prop} {D : va_G} {C : Nat → ClassId} {cD : ClassId} {K KR : Nat → Nat} {A : Nat → Prop} {adK adV : Nat → Nat} {ao ad b L : Nat} {xs : Nat → Int32} {u : CSt} {v : MSt} {o : Int64} {od : UInt64} {cells slots i : Nat} (Z : LCx p l s m args c meth A D C cD K KR adK adV ao ad b L xs) (hI : INV u v) (hi : i + 8 ≤ L) (hcs : cells + 1 ≤ room_1.cells ∧ slots + 6 ≤ room_1.slots) (kk : NXT p l e s m args below meth c Q A D C cD K KR ao ad b i cells slots) : ZZ p l e room_1 s m args below meth c cells slots Q A (PL D C cD K KR ao ad u v o od) 10 (lvL b (K 0) (KR 0) ao ad i) [] 1203 := by
  obtain ⟨x1, e1⟩ : ∃ z : Int32, xs (i + 1) = z := ⟨_, rfl⟩
  obtain ⟨x2, e2⟩ : ∃ z : Int32, xs (i + 2) = z := ⟨_, rfl⟩
  refine zz_aload_n 1203 Z.1.1 1 dL_law_1203 rfl ?_
  refine zz_aload_n 1204 Z.1.1 0 dL_law_1204 rfl ?_
  refine zz_iload 1205 Z.1.1 5 dL_law_1205 rfl ?_
  refine zz_iconst 1207 Z.1.1 (v := nI 1) dL_law_1207 rfl ?_
  refine zz_iadd 1208 Z.1.1 (v := nI (i + 1)) dL_law_1208 (nI_add i 1) ?_
  refine lw_sld 1209 Z (j := i + 1) (by omega) e1 dL_law_1209 ?_
  refine zz_aload_n 1210 Z.1.1 0 dL_law_1210 rfl ?_
  refine zz_iload 1211 Z.1.1 5 dL_law_1211 rfl ?_
  refine zz_iconst 1213 Z.1.1 (v := nI 2) dL_law_1213 rfl ?_
  refine zz_iadd 1214 Z.1.1 (v := nI (i + 2)) dL_law_1214 (nI_add i 2) ?_
  refine lw_sld 1215 Z (j := i + 2) (by omega) e2 dL_law_1215 ?_
  refine zz_aload_n 1216 Z.1.1 3 dL_law_1216 rfl ?_
  obtain ⟨kc, rb, o', CU, RV, postR, hW, hR, hp, hq, hk, hv⟩ := pr_renew l Z.2.2.1 D C cD K KR adK adV ao Z.2.2.2.2.2.1.1.1 Z.2.2.2.2.2.1.1.2 Z.2.2.2.2.2.1.aoD u v o hI x1 x2
  refine lw_callW 1217 Z (na := 4) (As := [.int x1, .int x2]) hW gL_law_L_renew rfl ⟨rfl, rfl⟩ (by decide +kernel) ⟨Nat.le_of_ble_eq_true rfl, Nat.le_of_ble_eq_true rfl⟩ rfl rfl (Nat.le_of_ble_eq_true rfl) hcs dL_law_1217 ?_
  rintro r ⟨q1, q2⟩ ⟨er, eo, hC⟩
  replace eo : q2 = o' := eo
  replace hC : CU q1 := hC
  rw [er]
  refine zz_world (P' := (PL D C cD K KR ao ad q1 v q2 od)) (fun _ h => h) ?_
  refine zz_istore 1220 Z.1.1 (lv' := [(6, .int (nI kc)), (0, .ref b), (1, .ref (K 0)), (2, .ref (KR 0)), (3, .ref ao), (4, .ref ad), (5, .int (nI i))]) dL_law_1220 (by decide) rfl ?_
  refine zz_aload_n 1222 Z.1.1 3 dL_law_1222 rfl ?_
  refine zz_aload_n 1223 Z.1.1 1 dL_law_1223 rfl ?_
  refine zz_iload 1224 Z.1.1 6 dL_law_1224 rfl ?_
  refine zz_iconst 1226 Z.1.1 (v := nI 1) dL_law_1226 rfl ?_
  refine zz_iadd 1227 Z.1.1 (v := nI (i + 1)) dL_law_1227 (nI_add i 1) ?_
  refine lw_sld 1228 Z (j := i + 1) (by omega) e1 dL_law_1228 ?_
  refine zz_aload_n 1229 Z.1.1 1 dL_law_1229 rfl ?_
  refine zz_iload 1230 Z.1.1 6 dL_law_1230 rfl ?_
  refine zz_iconst 1232 Z.1.1 (v := nI 2) dL_law_1232 rfl ?_
  refine zz_iadd 1233 Z.1.1 (v := nI (i + 2)) dL_law_1233 (nI_add i 2) ?_
  refine lw_sld 1234 Z (j := i + 2) (by omega) e2 dL_law_1234 ?_
  refine lw_callRi 1235 Z (As := [.int x1, .int x2]) hR gL_law_X7_renew rfl ⟨rfl, rfl⟩ yd_X7_renew ⟨Nat.le_of_ble_eq_true rfl, Nat.le_of_ble_eq_true rfl⟩ rfl rfl (Nat.le_of_ble_eq_true rfl) hcs dL_law_1235 ?_
  intro r2 w hw2
  obtain ⟨er2, hV⟩ := hp r2 w hw2
  rw [er2]
  have hIN := hq q1 w hC hV
  refine zz_istore 1238 Z.1.1 (lv' := [(7, .int rb), (6, .int (nI kc)), (0, .ref b), (1, .ref (K 0)), (2, .ref (KR 0)), (3, .ref ao), (4, .ref ad), (5, .int (nI i))]) dL_law_1238 (by decide) rfl ?_
  refine zz_aload_n 1240 Z.1.1 4 dL_law_1240 rfl ?_
  refine lw_callRi 1241 Z (As := []) (kt_X7_thrown l D C KR Z.2.2.2.2.2.1.1.2 w.1 w.2.1 w.2.2.1 w.2.2.2 kc hIN.1) gL_law_X7_thrown rfl ⟨rfl, rfl⟩ yd_X7_thrown ⟨Nat.le_of_ble_eq_true rfl, Nat.le_of_ble_eq_true rfl⟩ rfl rfl (Nat.le_of_ble_eq_true rfl) hcs dL_law_1241 ?_
  rintro r3 w3 ⟨er3, ew3⟩
  subst ew3
  rw [er3]
  refine zz_world (P' := (PL D C cD K KR ao ad q1 w q2 od)) (fun _ h => h) ?_
  refine zz_iload 1244 Z.1.1 1 dL_law_1244 rfl ?_
  refine zz_icmp_eq 1246 1251 Z.1.1 (nI_toInt (by omega)) (nI_toInt (by omega)) dL_law_1246 (by decide) (fun h => ?_) (fun h => ?_)
  · skip
    refine zz_iload 1251 Z.1.1 1 dL_law_1251 rfl ?_
    refine zz_if_ne 1253 1268 Z.1.1 (nI_toInt (by omega)) dL_law_1253 (by decide) (fun h0 => ?_) (fun h0 => ?_)
    · skip
      refine zz_goto 1268 3988 Z.1.1 dL_law_1268 (by decide) ?_
      refine zz_lvs [2, 3, 4, 5, 6, 7] rfl ?_
      exact kk q1 w q2 od _ _ hIN.2 (by omega) (by omega)
    · skip
      have hv0 := hv (by omega)
      rw [← eo] at hv0
      refine zz_aload_n 1256 Z.1.1 5 dL_law_1256 rfl ?_
      refine zz_iconst 1257 Z.1.1 (v := nI 0) dL_law_1257 rfl ?_
      refine lw_lld 1258 Z dL_law_1258 ?_
      refine zz_iload 1259 Z.1.1 0 dL_law_1259 rfl ?_
      refine zz_i2l 1261 Z.1.1 dL_law_1261 rfl ?_
      refine zz_lcmp 1262 Z.1.1 dL_law_1262 ?_
      refine zz_ifL_eq 1263 1268 Z.1.1 dL_law_1263 (by decide) (fun h => ?_) (fun h => ?_)
      · skip
        refine zz_goto 1268 3988 Z.1.1 dL_law_1268 (by decide) ?_
        refine zz_lvs [2, 3, 4, 5, 6, 7] rfl ?_
        exact kk q1 w q2 od _ _ hIN.2 (by omega) (by omega)
      · exact absurd (hv0) h
  · exact absurd rfl h

set_option maxHeartbeats 8000000 in
set_option maxRecDepth 100000 in
theorem cs_intersect {p : Program} {l : Launch} {e : Env} {s : State} {m : MethodId} {args : Array Value} {below : List Frame} {meth : Method} {c : Code} {Q : State → Prop} {D : va_G} {C : Nat → ClassId} {cD : ClassId} {K KR : Nat → Nat} {A : Nat → Prop} {adK adV : Nat → Nat} {ao ad b L : Nat} {xs : Nat → Int32} {u : CSt} {v : MSt} {o : Int64} {od : UInt64} {cells slots i : Nat} (Z : LCx p l s m args c meth A D C cD K KR adK adV ao ad b L xs) (hI : INV u v) (hi : i + 8 ≤ L) (hcs : cells + 1 ≤ room_1.cells ∧ slots + 6 ≤ room_1.slots) (kk : NXT p l e s m args below meth c Q A D C cD K KR ao ad b i cells slots) : ZZ p l e room_1 s m args below meth c cells slots Q A (PL D C cD K KR ao ad u v o od) 10 (lvL b (K 0) (KR 0) ao ad i) [] 1271 := by
  obtain ⟨x1, e1⟩ : ∃ z : Int32, xs (i + 1) = z := ⟨_, rfl⟩
  obtain ⟨x2, e2⟩ : ∃ z : Int32, xs (i + 2) = z := ⟨_, rfl⟩
  refine zz_aload_n 1271 Z.1.1 1 dL_law_1271 rfl ?_
  refine zz_aload_n 1272 Z.1.1 0 dL_law_1272 rfl ?_
  refine zz_iload 1273 Z.1.1 5 dL_law_1273 rfl ?_
  refine zz_iconst 1275 Z.1.1 (v := nI 1) dL_law_1275 rfl ?_
  refine zz_iadd 1276 Z.1.1 (v := nI (i + 1)) dL_law_1276 (nI_add i 1) ?_
  refine lw_sld 1277 Z (j := i + 1) (by omega) e1 dL_law_1277 ?_
  refine zz_aload_n 1278 Z.1.1 0 dL_law_1278 rfl ?_
  refine zz_iload 1279 Z.1.1 5 dL_law_1279 rfl ?_
  refine zz_iconst 1281 Z.1.1 (v := nI 2) dL_law_1281 rfl ?_
  refine zz_iadd 1282 Z.1.1 (v := nI (i + 2)) dL_law_1282 (nI_add i 2) ?_
  refine lw_sld 1283 Z (j := i + 2) (by omega) e2 dL_law_1283 ?_
  refine zz_aload_n 1284 Z.1.1 3 dL_law_1284 rfl ?_
  obtain ⟨kc, rb, o', CU, RV, postR, hW, hR, hp, hq, hk, hv⟩ := pr_intersect l Z.2.2.1 D C cD K KR adK adV ao Z.2.2.2.2.2.1.1.1 Z.2.2.2.2.2.1.1.2 Z.2.2.2.2.2.1.aoD u v o hI x1 x2
  refine lw_callW 1285 Z (na := 4) (As := [.int x1, .int x2]) hW gL_law_L_intersect rfl ⟨rfl, rfl⟩ (by decide +kernel) ⟨Nat.le_of_ble_eq_true rfl, Nat.le_of_ble_eq_true rfl⟩ rfl rfl (Nat.le_of_ble_eq_true rfl) hcs dL_law_1285 ?_
  rintro r ⟨q1, q2⟩ ⟨er, eo, hC⟩
  replace eo : q2 = o' := eo
  replace hC : CU q1 := hC
  rw [er]
  refine zz_world (P' := (PL D C cD K KR ao ad q1 v q2 od)) (fun _ h => h) ?_
  refine zz_istore 1288 Z.1.1 (lv' := [(6, .int (nI kc)), (0, .ref b), (1, .ref (K 0)), (2, .ref (KR 0)), (3, .ref ao), (4, .ref ad), (5, .int (nI i))]) dL_law_1288 (by decide) rfl ?_
  refine zz_aload_n 1290 Z.1.1 3 dL_law_1290 rfl ?_
  refine zz_aload_n 1291 Z.1.1 1 dL_law_1291 rfl ?_
  refine zz_iload 1292 Z.1.1 6 dL_law_1292 rfl ?_
  refine zz_iconst 1294 Z.1.1 (v := nI 1) dL_law_1294 rfl ?_
  refine zz_iadd 1295 Z.1.1 (v := nI (i + 1)) dL_law_1295 (nI_add i 1) ?_
  refine lw_sld 1296 Z (j := i + 1) (by omega) e1 dL_law_1296 ?_
  refine zz_aload_n 1297 Z.1.1 1 dL_law_1297 rfl ?_
  refine zz_iload 1298 Z.1.1 6 dL_law_1298 rfl ?_
  refine zz_iconst 1300 Z.1.1 (v := nI 2) dL_law_1300 rfl ?_
  refine zz_iadd 1301 Z.1.1 (v := nI (i + 2)) dL_law_1301 (nI_add i 2) ?_
  refine lw_sld 1302 Z (j := i + 2) (by omega) e2 dL_law_1302 ?_
  refine lw_callRi 1303 Z (As := [.int x1, .int x2]) hR gL_law_X7_intersect rfl ⟨rfl, rfl⟩ yd_X7_intersect ⟨Nat.le_of_ble_eq_true rfl, Nat.le_of_ble_eq_true rfl⟩ rfl rfl (Nat.le_of_ble_eq_true rfl) hcs dL_law_1303 ?_
  intro r2 w hw2
  obtain ⟨er2, hV⟩ := hp r2 w hw2
  rw [er2]
  have hIN := hq q1 w hC hV
  refine zz_istore 1306 Z.1.1 (lv' := [(7, .int rb), (6, .int (nI kc)), (0, .ref b), (1, .ref (K 0)), (2, .ref (KR 0)), (3, .ref ao), (4, .ref ad), (5, .int (nI i))]) dL_law_1306 (by decide) rfl ?_
  refine zz_aload_n 1308 Z.1.1 4 dL_law_1308 rfl ?_
  refine lw_callRi 1309 Z (As := []) (kt_X7_thrown l D C KR Z.2.2.2.2.2.1.1.2 w.1 w.2.1 w.2.2.1 w.2.2.2 kc hIN.1) gL_law_X7_thrown rfl ⟨rfl, rfl⟩ yd_X7_thrown ⟨Nat.le_of_ble_eq_true rfl, Nat.le_of_ble_eq_true rfl⟩ rfl rfl (Nat.le_of_ble_eq_true rfl) hcs dL_law_1309 ?_
  rintro r3 w3 ⟨er3, ew3⟩
  subst ew3
  rw [er3]
  refine zz_world (P' := (PL D C cD K KR ao ad q1 w q2 od)) (fun _ h => h) ?_
  refine zz_iload 1312 Z.1.1 1 dL_law_1312 rfl ?_
  refine zz_icmp_eq 1314 1319 Z.1.1 (nI_toInt (by omega)) (nI_toInt (by omega)) dL_law_1314 (by decide) (fun h => ?_) (fun h => ?_)
  · skip
    refine zz_iload 1319 Z.1.1 1 dL_law_1319 rfl ?_
    refine zz_if_ne 1321 1336 Z.1.1 (nI_toInt (by omega)) dL_law_1321 (by decide) (fun h0 => ?_) (fun h0 => ?_)
    · skip
      refine zz_goto 1336 3988 Z.1.1 dL_law_1336 (by decide) ?_
      refine zz_lvs [2, 3, 4, 5, 6, 7] rfl ?_
      exact kk q1 w q2 od _ _ hIN.2 (by omega) (by omega)
    · skip
      have hv0 := hv (by omega)
      rw [← eo] at hv0
      refine zz_aload_n 1324 Z.1.1 5 dL_law_1324 rfl ?_
      refine zz_iconst 1325 Z.1.1 (v := nI 0) dL_law_1325 rfl ?_
      refine lw_lld 1326 Z dL_law_1326 ?_
      refine zz_iload 1327 Z.1.1 0 dL_law_1327 rfl ?_
      refine zz_i2l 1329 Z.1.1 dL_law_1329 rfl ?_
      refine zz_lcmp 1330 Z.1.1 dL_law_1330 ?_
      refine zz_ifL_eq 1331 1336 Z.1.1 dL_law_1331 (by decide) (fun h => ?_) (fun h => ?_)
      · skip
        refine zz_goto 1336 3988 Z.1.1 dL_law_1336 (by decide) ?_
        refine zz_lvs [2, 3, 4, 5, 6, 7] rfl ?_
        exact kk q1 w q2 od _ _ hIN.2 (by omega) (by omega)
      · exact absurd (hv0) h
  · exact absurd rfl h

set_option maxHeartbeats 8000000 in
set_option maxRecDepth 100000 in
theorem cs_unite {p : Program} {l : Launch} {e : Env} {s : State} {m : MethodId} {args : Array Value} {below : List Frame} {meth : Method} {c : Code} {Q : State → Prop} {D : va_G} {C : Nat → ClassId} {cD : ClassId} {K KR : Nat → Nat} {A : Nat → Prop} {adK adV : Nat → Nat} {ao ad b L : Nat} {xs : Nat → Int32} {u : CSt} {v : MSt} {o : Int64} {od : UInt64} {cells slots i : Nat} (Z : LCx p l s m args c meth A D C cD K KR adK adV ao ad b L xs) (hI : INV u v) (hi : i + 8 ≤ L) (hcs : cells + 1 ≤ room_1.cells ∧ slots + 6 ≤ room_1.slots) (kk : NXT p l e s m args below meth c Q A D C cD K KR ao ad b i cells slots) : ZZ p l e room_1 s m args below meth c cells slots Q A (PL D C cD K KR ao ad u v o od) 10 (lvL b (K 0) (KR 0) ao ad i) [] 1339 := by
  obtain ⟨x1, e1⟩ : ∃ z : Int32, xs (i + 1) = z := ⟨_, rfl⟩
  obtain ⟨x2, e2⟩ : ∃ z : Int32, xs (i + 2) = z := ⟨_, rfl⟩
  refine zz_aload_n 1339 Z.1.1 1 dL_law_1339 rfl ?_
  refine zz_aload_n 1340 Z.1.1 0 dL_law_1340 rfl ?_
  refine zz_iload 1341 Z.1.1 5 dL_law_1341 rfl ?_
  refine zz_iconst 1343 Z.1.1 (v := nI 1) dL_law_1343 rfl ?_
  refine zz_iadd 1344 Z.1.1 (v := nI (i + 1)) dL_law_1344 (nI_add i 1) ?_
  refine lw_sld 1345 Z (j := i + 1) (by omega) e1 dL_law_1345 ?_
  refine zz_aload_n 1346 Z.1.1 0 dL_law_1346 rfl ?_
  refine zz_iload 1347 Z.1.1 5 dL_law_1347 rfl ?_
  refine zz_iconst 1349 Z.1.1 (v := nI 2) dL_law_1349 rfl ?_
  refine zz_iadd 1350 Z.1.1 (v := nI (i + 2)) dL_law_1350 (nI_add i 2) ?_
  refine lw_sld 1351 Z (j := i + 2) (by omega) e2 dL_law_1351 ?_
  refine zz_aload_n 1352 Z.1.1 3 dL_law_1352 rfl ?_
  obtain ⟨kc, rb, o', CU, RV, postR, hW, hR, hp, hq, hk, hv⟩ := pr_unite l Z.2.2.1 D C cD K KR adK adV ao Z.2.2.2.2.2.1.1.1 Z.2.2.2.2.2.1.1.2 Z.2.2.2.2.2.1.aoD u v o hI x1 x2
  refine lw_callW 1353 Z (na := 4) (As := [.int x1, .int x2]) hW gL_law_L_unite rfl ⟨rfl, rfl⟩ (by decide +kernel) ⟨Nat.le_of_ble_eq_true rfl, Nat.le_of_ble_eq_true rfl⟩ rfl rfl (Nat.le_of_ble_eq_true rfl) hcs dL_law_1353 ?_
  rintro r ⟨q1, q2⟩ ⟨er, eo, hC⟩
  replace eo : q2 = o' := eo
  replace hC : CU q1 := hC
  rw [er]
  refine zz_world (P' := (PL D C cD K KR ao ad q1 v q2 od)) (fun _ h => h) ?_
  refine zz_istore 1356 Z.1.1 (lv' := [(6, .int (nI kc)), (0, .ref b), (1, .ref (K 0)), (2, .ref (KR 0)), (3, .ref ao), (4, .ref ad), (5, .int (nI i))]) dL_law_1356 (by decide) rfl ?_
  refine zz_aload_n 1358 Z.1.1 3 dL_law_1358 rfl ?_
  refine zz_aload_n 1359 Z.1.1 1 dL_law_1359 rfl ?_
  refine zz_iload 1360 Z.1.1 6 dL_law_1360 rfl ?_
  refine zz_iconst 1362 Z.1.1 (v := nI 1) dL_law_1362 rfl ?_
  refine zz_iadd 1363 Z.1.1 (v := nI (i + 1)) dL_law_1363 (nI_add i 1) ?_
  refine lw_sld 1364 Z (j := i + 1) (by omega) e1 dL_law_1364 ?_
  refine zz_aload_n 1365 Z.1.1 1 dL_law_1365 rfl ?_
  refine zz_iload 1366 Z.1.1 6 dL_law_1366 rfl ?_
  refine zz_iconst 1368 Z.1.1 (v := nI 2) dL_law_1368 rfl ?_
  refine zz_iadd 1369 Z.1.1 (v := nI (i + 2)) dL_law_1369 (nI_add i 2) ?_
  refine lw_sld 1370 Z (j := i + 2) (by omega) e2 dL_law_1370 ?_
  refine lw_callRi 1371 Z (As := [.int x1, .int x2]) hR gL_law_X7_unite rfl ⟨rfl, rfl⟩ yd_X7_unite ⟨Nat.le_of_ble_eq_true rfl, Nat.le_of_ble_eq_true rfl⟩ rfl rfl (Nat.le_of_ble_eq_true rfl) hcs dL_law_1371 ?_
  intro r2 w hw2
  obtain ⟨er2, hV⟩ := hp r2 w hw2
  rw [er2]
  have hIN := hq q1 w hC hV
  refine zz_istore 1374 Z.1.1 (lv' := [(7, .int rb), (6, .int (nI kc)), (0, .ref b), (1, .ref (K 0)), (2, .ref (KR 0)), (3, .ref ao), (4, .ref ad), (5, .int (nI i))]) dL_law_1374 (by decide) rfl ?_
  refine zz_aload_n 1376 Z.1.1 4 dL_law_1376 rfl ?_
  refine lw_callRi 1377 Z (As := []) (kt_X7_thrown l D C KR Z.2.2.2.2.2.1.1.2 w.1 w.2.1 w.2.2.1 w.2.2.2 kc hIN.1) gL_law_X7_thrown rfl ⟨rfl, rfl⟩ yd_X7_thrown ⟨Nat.le_of_ble_eq_true rfl, Nat.le_of_ble_eq_true rfl⟩ rfl rfl (Nat.le_of_ble_eq_true rfl) hcs dL_law_1377 ?_
  rintro r3 w3 ⟨er3, ew3⟩
  subst ew3
  rw [er3]
  refine zz_world (P' := (PL D C cD K KR ao ad q1 w q2 od)) (fun _ h => h) ?_
  refine zz_iload 1380 Z.1.1 1 dL_law_1380 rfl ?_
  refine zz_icmp_eq 1382 1387 Z.1.1 (nI_toInt (by omega)) (nI_toInt (by omega)) dL_law_1382 (by decide) (fun h => ?_) (fun h => ?_)
  · skip
    refine zz_iload 1387 Z.1.1 1 dL_law_1387 rfl ?_
    refine zz_if_ne 1389 1404 Z.1.1 (nI_toInt (by omega)) dL_law_1389 (by decide) (fun h0 => ?_) (fun h0 => ?_)
    · skip
      refine zz_goto 1404 3988 Z.1.1 dL_law_1404 (by decide) ?_
      refine zz_lvs [2, 3, 4, 5, 6, 7] rfl ?_
      exact kk q1 w q2 od _ _ hIN.2 (by omega) (by omega)
    · skip
      have hv0 := hv (by omega)
      rw [← eo] at hv0
      refine zz_aload_n 1392 Z.1.1 5 dL_law_1392 rfl ?_
      refine zz_iconst 1393 Z.1.1 (v := nI 0) dL_law_1393 rfl ?_
      refine lw_lld 1394 Z dL_law_1394 ?_
      refine zz_iload 1395 Z.1.1 0 dL_law_1395 rfl ?_
      refine zz_i2l 1397 Z.1.1 dL_law_1397 rfl ?_
      refine zz_lcmp 1398 Z.1.1 dL_law_1398 ?_
      refine zz_ifL_eq 1399 1404 Z.1.1 dL_law_1399 (by decide) (fun h => ?_) (fun h => ?_)
      · skip
        refine zz_goto 1404 3988 Z.1.1 dL_law_1404 (by decide) ?_
        refine zz_lvs [2, 3, 4, 5, 6, 7] rfl ?_
        exact kk q1 w q2 od _ _ hIN.2 (by omega) (by omega)
      · exact absurd (hv0) h
  · exact absurd rfl h

set_option maxHeartbeats 8000000 in
set_option maxRecDepth 100000 in
theorem cs_differ {p : Program} {l : Launch} {e : Env} {s : State} {m : MethodId} {args : Array Value} {below : List Frame} {meth : Method} {c : Code} {Q : State → Prop} {D : va_G} {C : Nat → ClassId} {cD : ClassId} {K KR : Nat → Nat} {A : Nat → Prop} {adK adV : Nat → Nat} {ao ad b L : Nat} {xs : Nat → Int32} {u : CSt} {v : MSt} {o : Int64} {od : UInt64} {cells slots i : Nat} (Z : LCx p l s m args c meth A D C cD K KR adK adV ao ad b L xs) (hI : INV u v) (hi : i + 8 ≤ L) (hcs : cells + 1 ≤ room_1.cells ∧ slots + 6 ≤ room_1.slots) (kk : NXT p l e s m args below meth c Q A D C cD K KR ao ad b i cells slots) : ZZ p l e room_1 s m args below meth c cells slots Q A (PL D C cD K KR ao ad u v o od) 10 (lvL b (K 0) (KR 0) ao ad i) [] 1407 := by
  obtain ⟨x1, e1⟩ : ∃ z : Int32, xs (i + 1) = z := ⟨_, rfl⟩
  obtain ⟨x2, e2⟩ : ∃ z : Int32, xs (i + 2) = z := ⟨_, rfl⟩
  refine zz_aload_n 1407 Z.1.1 1 dL_law_1407 rfl ?_
  refine zz_aload_n 1408 Z.1.1 0 dL_law_1408 rfl ?_
  refine zz_iload 1409 Z.1.1 5 dL_law_1409 rfl ?_
  refine zz_iconst 1411 Z.1.1 (v := nI 1) dL_law_1411 rfl ?_
  refine zz_iadd 1412 Z.1.1 (v := nI (i + 1)) dL_law_1412 (nI_add i 1) ?_
  refine lw_sld 1413 Z (j := i + 1) (by omega) e1 dL_law_1413 ?_
  refine zz_aload_n 1414 Z.1.1 0 dL_law_1414 rfl ?_
  refine zz_iload 1415 Z.1.1 5 dL_law_1415 rfl ?_
  refine zz_iconst 1417 Z.1.1 (v := nI 2) dL_law_1417 rfl ?_
  refine zz_iadd 1418 Z.1.1 (v := nI (i + 2)) dL_law_1418 (nI_add i 2) ?_
  refine lw_sld 1419 Z (j := i + 2) (by omega) e2 dL_law_1419 ?_
  refine zz_aload_n 1420 Z.1.1 3 dL_law_1420 rfl ?_
  obtain ⟨kc, rb, o', CU, RV, postR, hW, hR, hp, hq, hk, hv⟩ := pr_differ l Z.2.2.1 D C cD K KR adK adV ao Z.2.2.2.2.2.1.1.1 Z.2.2.2.2.2.1.1.2 Z.2.2.2.2.2.1.aoD u v o hI x1 x2
  refine lw_callW 1421 Z (na := 4) (As := [.int x1, .int x2]) hW gL_law_L_differ rfl ⟨rfl, rfl⟩ (by decide +kernel) ⟨Nat.le_of_ble_eq_true rfl, Nat.le_of_ble_eq_true rfl⟩ rfl rfl (Nat.le_of_ble_eq_true rfl) hcs dL_law_1421 ?_
  rintro r ⟨q1, q2⟩ ⟨er, eo, hC⟩
  replace eo : q2 = o' := eo
  replace hC : CU q1 := hC
  rw [er]
  refine zz_world (P' := (PL D C cD K KR ao ad q1 v q2 od)) (fun _ h => h) ?_
  refine zz_istore 1424 Z.1.1 (lv' := [(6, .int (nI kc)), (0, .ref b), (1, .ref (K 0)), (2, .ref (KR 0)), (3, .ref ao), (4, .ref ad), (5, .int (nI i))]) dL_law_1424 (by decide) rfl ?_
  refine zz_aload_n 1426 Z.1.1 3 dL_law_1426 rfl ?_
  refine zz_aload_n 1427 Z.1.1 1 dL_law_1427 rfl ?_
  refine zz_iload 1428 Z.1.1 6 dL_law_1428 rfl ?_
  refine zz_iconst 1430 Z.1.1 (v := nI 1) dL_law_1430 rfl ?_
  refine zz_iadd 1431 Z.1.1 (v := nI (i + 1)) dL_law_1431 (nI_add i 1) ?_
  refine lw_sld 1432 Z (j := i + 1) (by omega) e1 dL_law_1432 ?_
  refine zz_aload_n 1433 Z.1.1 1 dL_law_1433 rfl ?_
  refine zz_iload 1434 Z.1.1 6 dL_law_1434 rfl ?_
  refine zz_iconst 1436 Z.1.1 (v := nI 2) dL_law_1436 rfl ?_
  refine zz_iadd 1437 Z.1.1 (v := nI (i + 2)) dL_law_1437 (nI_add i 2) ?_
  refine lw_sld 1438 Z (j := i + 2) (by omega) e2 dL_law_1438 ?_
  refine lw_callRi 1439 Z (As := [.int x1, .int x2]) hR gL_law_X7_differ rfl ⟨rfl, rfl⟩ yd_X7_differ ⟨Nat.le_of_ble_eq_true rfl, Nat.le_of_ble_eq_true rfl⟩ rfl rfl (Nat.le_of_ble_eq_true rfl) hcs dL_law_1439 ?_
  intro r2 w hw2
  obtain ⟨er2, hV⟩ := hp r2 w hw2
  rw [er2]
  have hIN := hq q1 w hC hV
  refine zz_istore 1442 Z.1.1 (lv' := [(7, .int rb), (6, .int (nI kc)), (0, .ref b), (1, .ref (K 0)), (2, .ref (KR 0)), (3, .ref ao), (4, .ref ad), (5, .int (nI i))]) dL_law_1442 (by decide) rfl ?_
  refine zz_aload_n 1444 Z.1.1 4 dL_law_1444 rfl ?_
  refine lw_callRi 1445 Z (As := []) (kt_X7_thrown l D C KR Z.2.2.2.2.2.1.1.2 w.1 w.2.1 w.2.2.1 w.2.2.2 kc hIN.1) gL_law_X7_thrown rfl ⟨rfl, rfl⟩ yd_X7_thrown ⟨Nat.le_of_ble_eq_true rfl, Nat.le_of_ble_eq_true rfl⟩ rfl rfl (Nat.le_of_ble_eq_true rfl) hcs dL_law_1445 ?_
  rintro r3 w3 ⟨er3, ew3⟩
  subst ew3
  rw [er3]
  refine zz_world (P' := (PL D C cD K KR ao ad q1 w q2 od)) (fun _ h => h) ?_
  refine zz_iload 1448 Z.1.1 1 dL_law_1448 rfl ?_
  refine zz_icmp_eq 1450 1455 Z.1.1 (nI_toInt (by omega)) (nI_toInt (by omega)) dL_law_1450 (by decide) (fun h => ?_) (fun h => ?_)
  · skip
    refine zz_iload 1455 Z.1.1 1 dL_law_1455 rfl ?_
    refine zz_if_ne 1457 1472 Z.1.1 (nI_toInt (by omega)) dL_law_1457 (by decide) (fun h0 => ?_) (fun h0 => ?_)
    · skip
      refine zz_goto 1472 3988 Z.1.1 dL_law_1472 (by decide) ?_
      refine zz_lvs [2, 3, 4, 5, 6, 7] rfl ?_
      exact kk q1 w q2 od _ _ hIN.2 (by omega) (by omega)
    · skip
      have hv0 := hv (by omega)
      rw [← eo] at hv0
      refine zz_aload_n 1460 Z.1.1 5 dL_law_1460 rfl ?_
      refine zz_iconst 1461 Z.1.1 (v := nI 0) dL_law_1461 rfl ?_
      refine lw_lld 1462 Z dL_law_1462 ?_
      refine zz_iload 1463 Z.1.1 0 dL_law_1463 rfl ?_
      refine zz_i2l 1465 Z.1.1 dL_law_1465 rfl ?_
      refine zz_lcmp 1466 Z.1.1 dL_law_1466 ?_
      refine zz_ifL_eq 1467 1472 Z.1.1 dL_law_1467 (by decide) (fun h => ?_) (fun h => ?_)
      · skip
        refine zz_goto 1472 3988 Z.1.1 dL_law_1472 (by decide) ?_
        refine zz_lvs [2, 3, 4, 5, 6, 7] rfl ?_
        exact kk q1 w q2 od _ _ hIN.2 (by omega) (by omega)
      · exact absurd (hv0) h
  · exact absurd rfl h

set_option maxHeartbeats 8000000 in
set_option maxRecDepth 100000 in
theorem cs_subtract {p : Program} {l : Launch} {e : Env} {s : State} {m : MethodId} {args : Array Value} {below : List Frame} {meth : Method} {c : Code} {Q : State → Prop} {D : va_G} {C : Nat → ClassId} {cD : ClassId} {K KR : Nat → Nat} {A : Nat → Prop} {adK adV : Nat → Nat} {ao ad b L : Nat} {xs : Nat → Int32} {u : CSt} {v : MSt} {o : Int64} {od : UInt64} {cells slots i : Nat} (Z : LCx p l s m args c meth A D C cD K KR adK adV ao ad b L xs) (hI : INV u v) (hi : i + 8 ≤ L) (hcs : cells + 1 ≤ room_1.cells ∧ slots + 6 ≤ room_1.slots) (kk : NXT p l e s m args below meth c Q A D C cD K KR ao ad b i cells slots) : ZZ p l e room_1 s m args below meth c cells slots Q A (PL D C cD K KR ao ad u v o od) 10 (lvL b (K 0) (KR 0) ao ad i) [] 1475 := by
  obtain ⟨x1, e1⟩ : ∃ z : Int32, xs (i + 1) = z := ⟨_, rfl⟩
  obtain ⟨x2, e2⟩ : ∃ z : Int32, xs (i + 2) = z := ⟨_, rfl⟩
  refine zz_aload_n 1475 Z.1.1 1 dL_law_1475 rfl ?_
  refine zz_aload_n 1476 Z.1.1 0 dL_law_1476 rfl ?_
  refine zz_iload 1477 Z.1.1 5 dL_law_1477 rfl ?_
  refine zz_iconst 1479 Z.1.1 (v := nI 1) dL_law_1479 rfl ?_
  refine zz_iadd 1480 Z.1.1 (v := nI (i + 1)) dL_law_1480 (nI_add i 1) ?_
  refine lw_sld 1481 Z (j := i + 1) (by omega) e1 dL_law_1481 ?_
  refine zz_aload_n 1482 Z.1.1 0 dL_law_1482 rfl ?_
  refine zz_iload 1483 Z.1.1 5 dL_law_1483 rfl ?_
  refine zz_iconst 1485 Z.1.1 (v := nI 2) dL_law_1485 rfl ?_
  refine zz_iadd 1486 Z.1.1 (v := nI (i + 2)) dL_law_1486 (nI_add i 2) ?_
  refine lw_sld 1487 Z (j := i + 2) (by omega) e2 dL_law_1487 ?_
  refine zz_aload_n 1488 Z.1.1 3 dL_law_1488 rfl ?_
  obtain ⟨kc, rb, o', CU, RV, postR, hW, hR, hp, hq, hk, hv⟩ := pr_subtract l Z.2.2.1 D C cD K KR adK adV ao Z.2.2.2.2.2.1.1.1 Z.2.2.2.2.2.1.1.2 Z.2.2.2.2.2.1.aoD u v o hI x1 x2
  refine lw_callW 1489 Z (na := 4) (As := [.int x1, .int x2]) hW gL_law_L_subtract rfl ⟨rfl, rfl⟩ (by decide +kernel) ⟨Nat.le_of_ble_eq_true rfl, Nat.le_of_ble_eq_true rfl⟩ rfl rfl (Nat.le_of_ble_eq_true rfl) hcs dL_law_1489 ?_
  rintro r ⟨q1, q2⟩ ⟨er, eo, hC⟩
  replace eo : q2 = o' := eo
  replace hC : CU q1 := hC
  rw [er]
  refine zz_world (P' := (PL D C cD K KR ao ad q1 v q2 od)) (fun _ h => h) ?_
  refine zz_istore 1492 Z.1.1 (lv' := [(6, .int (nI kc)), (0, .ref b), (1, .ref (K 0)), (2, .ref (KR 0)), (3, .ref ao), (4, .ref ad), (5, .int (nI i))]) dL_law_1492 (by decide) rfl ?_
  refine zz_aload_n 1494 Z.1.1 3 dL_law_1494 rfl ?_
  refine zz_aload_n 1495 Z.1.1 1 dL_law_1495 rfl ?_
  refine zz_iload 1496 Z.1.1 6 dL_law_1496 rfl ?_
  refine zz_iconst 1498 Z.1.1 (v := nI 1) dL_law_1498 rfl ?_
  refine zz_iadd 1499 Z.1.1 (v := nI (i + 1)) dL_law_1499 (nI_add i 1) ?_
  refine lw_sld 1500 Z (j := i + 1) (by omega) e1 dL_law_1500 ?_
  refine zz_aload_n 1501 Z.1.1 1 dL_law_1501 rfl ?_
  refine zz_iload 1502 Z.1.1 6 dL_law_1502 rfl ?_
  refine zz_iconst 1504 Z.1.1 (v := nI 2) dL_law_1504 rfl ?_
  refine zz_iadd 1505 Z.1.1 (v := nI (i + 2)) dL_law_1505 (nI_add i 2) ?_
  refine lw_sld 1506 Z (j := i + 2) (by omega) e2 dL_law_1506 ?_
  refine lw_callRi 1507 Z (As := [.int x1, .int x2]) hR gL_law_X7_subtract rfl ⟨rfl, rfl⟩ yd_X7_subtract ⟨Nat.le_of_ble_eq_true rfl, Nat.le_of_ble_eq_true rfl⟩ rfl rfl (Nat.le_of_ble_eq_true rfl) hcs dL_law_1507 ?_
  intro r2 w hw2
  obtain ⟨er2, hV⟩ := hp r2 w hw2
  rw [er2]
  have hIN := hq q1 w hC hV
  refine zz_istore 1510 Z.1.1 (lv' := [(7, .int rb), (6, .int (nI kc)), (0, .ref b), (1, .ref (K 0)), (2, .ref (KR 0)), (3, .ref ao), (4, .ref ad), (5, .int (nI i))]) dL_law_1510 (by decide) rfl ?_
  refine zz_aload_n 1512 Z.1.1 4 dL_law_1512 rfl ?_
  refine lw_callRi 1513 Z (As := []) (kt_X7_thrown l D C KR Z.2.2.2.2.2.1.1.2 w.1 w.2.1 w.2.2.1 w.2.2.2 kc hIN.1) gL_law_X7_thrown rfl ⟨rfl, rfl⟩ yd_X7_thrown ⟨Nat.le_of_ble_eq_true rfl, Nat.le_of_ble_eq_true rfl⟩ rfl rfl (Nat.le_of_ble_eq_true rfl) hcs dL_law_1513 ?_
  rintro r3 w3 ⟨er3, ew3⟩
  subst ew3
  rw [er3]
  refine zz_world (P' := (PL D C cD K KR ao ad q1 w q2 od)) (fun _ h => h) ?_
  refine zz_iload 1516 Z.1.1 1 dL_law_1516 rfl ?_
  refine zz_icmp_eq 1518 1523 Z.1.1 (nI_toInt (by omega)) (nI_toInt (by omega)) dL_law_1518 (by decide) (fun h => ?_) (fun h => ?_)
  · skip
    refine zz_iload 1523 Z.1.1 1 dL_law_1523 rfl ?_
    refine zz_if_ne 1525 1540 Z.1.1 (nI_toInt (by omega)) dL_law_1525 (by decide) (fun h0 => ?_) (fun h0 => ?_)
    · skip
      refine zz_goto 1540 3988 Z.1.1 dL_law_1540 (by decide) ?_
      refine zz_lvs [2, 3, 4, 5, 6, 7] rfl ?_
      exact kk q1 w q2 od _ _ hIN.2 (by omega) (by omega)
    · skip
      have hv0 := hv (by omega)
      rw [← eo] at hv0
      refine zz_aload_n 1528 Z.1.1 5 dL_law_1528 rfl ?_
      refine zz_iconst 1529 Z.1.1 (v := nI 0) dL_law_1529 rfl ?_
      refine lw_lld 1530 Z dL_law_1530 ?_
      refine zz_iload 1531 Z.1.1 0 dL_law_1531 rfl ?_
      refine zz_i2l 1533 Z.1.1 dL_law_1533 rfl ?_
      refine zz_lcmp 1534 Z.1.1 dL_law_1534 ?_
      refine zz_ifL_eq 1535 1540 Z.1.1 dL_law_1535 (by decide) (fun h => ?_) (fun h => ?_)
      · skip
        refine zz_goto 1540 3988 Z.1.1 dL_law_1540 (by decide) ?_
        refine zz_lvs [2, 3, 4, 5, 6, 7] rfl ?_
        exact kk q1 w q2 od _ _ hIN.2 (by omega) (by omega)
      · exact absurd (hv0) h
  · exact absurd rfl h

set_option maxHeartbeats 8000000 in
set_option maxRecDepth 100000 in
theorem cs_copy {p : Program} {l : Launch} {e : Env} {s : State} {m : MethodId} {args : Array Value} {below : List Frame} {meth : Method} {c : Code} {Q : State → Prop} {D : va_G} {C : Nat → ClassId} {cD : ClassId} {K KR : Nat → Nat} {A : Nat → Prop} {adK adV : Nat → Nat} {ao ad b L : Nat} {xs : Nat → Int32} {u : CSt} {v : MSt} {o : Int64} {od : UInt64} {cells slots i : Nat} (Z : LCx p l s m args c meth A D C cD K KR adK adV ao ad b L xs) (hI : INV u v) (hi : i + 8 ≤ L) (hcs : cells + 1 ≤ room_1.cells ∧ slots + 6 ≤ room_1.slots) (kk : NXT p l e s m args below meth c Q A D C cD K KR ao ad b i cells slots) : ZZ p l e room_1 s m args below meth c cells slots Q A (PL D C cD K KR ao ad u v o od) 10 (lvL b (K 0) (KR 0) ao ad i) [] 1543 := by
  obtain ⟨x1, e1⟩ : ∃ z : Int32, xs (i + 1) = z := ⟨_, rfl⟩
  obtain ⟨x2, e2⟩ : ∃ z : Int32, xs (i + 2) = z := ⟨_, rfl⟩
  refine zz_aload_n 1543 Z.1.1 1 dL_law_1543 rfl ?_
  refine zz_aload_n 1544 Z.1.1 0 dL_law_1544 rfl ?_
  refine zz_iload 1545 Z.1.1 5 dL_law_1545 rfl ?_
  refine zz_iconst 1547 Z.1.1 (v := nI 1) dL_law_1547 rfl ?_
  refine zz_iadd 1548 Z.1.1 (v := nI (i + 1)) dL_law_1548 (nI_add i 1) ?_
  refine lw_sld 1549 Z (j := i + 1) (by omega) e1 dL_law_1549 ?_
  refine zz_aload_n 1550 Z.1.1 0 dL_law_1550 rfl ?_
  refine zz_iload 1551 Z.1.1 5 dL_law_1551 rfl ?_
  refine zz_iconst 1553 Z.1.1 (v := nI 2) dL_law_1553 rfl ?_
  refine zz_iadd 1554 Z.1.1 (v := nI (i + 2)) dL_law_1554 (nI_add i 2) ?_
  refine lw_sld 1555 Z (j := i + 2) (by omega) e2 dL_law_1555 ?_
  refine zz_aload_n 1556 Z.1.1 3 dL_law_1556 rfl ?_
  obtain ⟨kc, rb, o', CU, RV, postR, hW, hR, hp, hq, hk, hv⟩ := pr_copy l Z.2.2.1 D C cD K KR adK adV ao Z.2.2.2.2.2.1.1.1 Z.2.2.2.2.2.1.1.2 Z.2.2.2.2.2.1.aoD u v o hI x1 x2
  refine lw_callW 1557 Z (na := 4) (As := [.int x1, .int x2]) hW gL_law_L_copy rfl ⟨rfl, rfl⟩ (by decide +kernel) ⟨Nat.le_of_ble_eq_true rfl, Nat.le_of_ble_eq_true rfl⟩ rfl rfl (Nat.le_of_ble_eq_true rfl) hcs dL_law_1557 ?_
  rintro r ⟨q1, q2⟩ ⟨er, eo, hC⟩
  replace eo : q2 = o' := eo
  replace hC : CU q1 := hC
  rw [er]
  refine zz_world (P' := (PL D C cD K KR ao ad q1 v q2 od)) (fun _ h => h) ?_
  refine zz_istore 1560 Z.1.1 (lv' := [(6, .int (nI kc)), (0, .ref b), (1, .ref (K 0)), (2, .ref (KR 0)), (3, .ref ao), (4, .ref ad), (5, .int (nI i))]) dL_law_1560 (by decide) rfl ?_
  refine zz_aload_n 1562 Z.1.1 3 dL_law_1562 rfl ?_
  refine zz_aload_n 1563 Z.1.1 1 dL_law_1563 rfl ?_
  refine zz_iload 1564 Z.1.1 6 dL_law_1564 rfl ?_
  refine zz_iconst 1566 Z.1.1 (v := nI 1) dL_law_1566 rfl ?_
  refine zz_iadd 1567 Z.1.1 (v := nI (i + 1)) dL_law_1567 (nI_add i 1) ?_
  refine lw_sld 1568 Z (j := i + 1) (by omega) e1 dL_law_1568 ?_
  refine zz_aload_n 1569 Z.1.1 1 dL_law_1569 rfl ?_
  refine zz_iload 1570 Z.1.1 6 dL_law_1570 rfl ?_
  refine zz_iconst 1572 Z.1.1 (v := nI 2) dL_law_1572 rfl ?_
  refine zz_iadd 1573 Z.1.1 (v := nI (i + 2)) dL_law_1573 (nI_add i 2) ?_
  refine lw_sld 1574 Z (j := i + 2) (by omega) e2 dL_law_1574 ?_
  refine lw_callRi 1575 Z (As := [.int x1, .int x2]) hR gL_law_X7_copy rfl ⟨rfl, rfl⟩ yd_X7_copy ⟨Nat.le_of_ble_eq_true rfl, Nat.le_of_ble_eq_true rfl⟩ rfl rfl (Nat.le_of_ble_eq_true rfl) hcs dL_law_1575 ?_
  intro r2 w hw2
  obtain ⟨er2, hV⟩ := hp r2 w hw2
  rw [er2]
  have hIN := hq q1 w hC hV
  refine zz_istore 1578 Z.1.1 (lv' := [(7, .int rb), (6, .int (nI kc)), (0, .ref b), (1, .ref (K 0)), (2, .ref (KR 0)), (3, .ref ao), (4, .ref ad), (5, .int (nI i))]) dL_law_1578 (by decide) rfl ?_
  refine zz_aload_n 1580 Z.1.1 4 dL_law_1580 rfl ?_
  refine lw_callRi 1581 Z (As := []) (kt_X7_thrown l D C KR Z.2.2.2.2.2.1.1.2 w.1 w.2.1 w.2.2.1 w.2.2.2 kc hIN.1) gL_law_X7_thrown rfl ⟨rfl, rfl⟩ yd_X7_thrown ⟨Nat.le_of_ble_eq_true rfl, Nat.le_of_ble_eq_true rfl⟩ rfl rfl (Nat.le_of_ble_eq_true rfl) hcs dL_law_1581 ?_
  rintro r3 w3 ⟨er3, ew3⟩
  subst ew3
  rw [er3]
  refine zz_world (P' := (PL D C cD K KR ao ad q1 w q2 od)) (fun _ h => h) ?_
  refine zz_iload 1584 Z.1.1 1 dL_law_1584 rfl ?_
  refine zz_icmp_eq 1586 1591 Z.1.1 (nI_toInt (by omega)) (nI_toInt (by omega)) dL_law_1586 (by decide) (fun h => ?_) (fun h => ?_)
  · skip
    refine zz_iload 1591 Z.1.1 1 dL_law_1591 rfl ?_
    refine zz_if_ne 1593 1608 Z.1.1 (nI_toInt (by omega)) dL_law_1593 (by decide) (fun h0 => ?_) (fun h0 => ?_)
    · skip
      refine zz_goto 1608 3988 Z.1.1 dL_law_1608 (by decide) ?_
      refine zz_lvs [2, 3, 4, 5, 6, 7] rfl ?_
      exact kk q1 w q2 od _ _ hIN.2 (by omega) (by omega)
    · skip
      have hv0 := hv (by omega)
      rw [← eo] at hv0
      refine zz_aload_n 1596 Z.1.1 5 dL_law_1596 rfl ?_
      refine zz_iconst 1597 Z.1.1 (v := nI 0) dL_law_1597 rfl ?_
      refine lw_lld 1598 Z dL_law_1598 ?_
      refine zz_iload 1599 Z.1.1 0 dL_law_1599 rfl ?_
      refine zz_i2l 1601 Z.1.1 dL_law_1601 rfl ?_
      refine zz_lcmp 1602 Z.1.1 dL_law_1602 ?_
      refine zz_ifL_eq 1603 1608 Z.1.1 dL_law_1603 (by decide) (fun h => ?_) (fun h => ?_)
      · skip
        refine zz_goto 1608 3988 Z.1.1 dL_law_1608 (by decide) ?_
        refine zz_lvs [2, 3, 4, 5, 6, 7] rfl ?_
        exact kk q1 w q2 od _ _ hIN.2 (by omega) (by omega)
      · exact absurd (hv0) h
  · exact absurd rfl h

set_option maxHeartbeats 8000000 in
set_option maxRecDepth 100000 in
theorem cs_takePart {p : Program} {l : Launch} {e : Env} {s : State} {m : MethodId} {args : Array Value} {below : List Frame} {meth : Method} {c : Code} {Q : State → Prop} {D : va_G} {C : Nat → ClassId} {cD : ClassId} {K KR : Nat → Nat} {A : Nat → Prop} {adK adV : Nat → Nat} {ao ad b L : Nat} {xs : Nat → Int32} {u : CSt} {v : MSt} {o : Int64} {od : UInt64} {cells slots i : Nat} (Z : LCx p l s m args c meth A D C cD K KR adK adV ao ad b L xs) (hI : INV u v) (hi : i + 8 ≤ L) (hcs : cells + 1 ≤ room_1.cells ∧ slots + 6 ≤ room_1.slots) (kk : NXT p l e s m args below meth c Q A D C cD K KR ao ad b i cells slots) : ZZ p l e room_1 s m args below meth c cells slots Q A (PL D C cD K KR ao ad u v o od) 10 (lvL b (K 0) (KR 0) ao ad i) [] 1611 := by
  obtain ⟨x1, e1⟩ : ∃ z : Int32, xs (i + 1) = z := ⟨_, rfl⟩
  obtain ⟨x2, e2⟩ : ∃ z : Int32, xs (i + 2) = z := ⟨_, rfl⟩
  obtain ⟨x3, e3⟩ : ∃ z : Int32, xs (i + 3) = z := ⟨_, rfl⟩
  obtain ⟨x4, e4⟩ : ∃ z : Int32, xs (i + 4) = z := ⟨_, rfl⟩
  refine zz_aload_n 1611 Z.1.1 1 dL_law_1611 rfl ?_
  refine zz_aload_n 1612 Z.1.1 0 dL_law_1612 rfl ?_
  refine zz_iload 1613 Z.1.1 5 dL_law_1613 rfl ?_
  refine zz_iconst 1615 Z.1.1 (v := nI 1) dL_law_1615 rfl ?_
  refine zz_iadd 1616 Z.1.1 (v := nI (i + 1)) dL_law_1616 (nI_add i 1) ?_
  refine lw_sld 1617 Z (j := i + 1) (by omega) e1 dL_law_1617 ?_
  refine zz_aload_n 1618 Z.1.1 0 dL_law_1618 rfl ?_
  refine zz_iload 1619 Z.1.1 5 dL_law_1619 rfl ?_
  refine zz_iconst 1621 Z.1.1 (v := nI 2) dL_law_1621 rfl ?_
  refine zz_iadd 1622 Z.1.1 (v := nI (i + 2)) dL_law_1622 (nI_add i 2) ?_
  refine lw_sld 1623 Z (j := i + 2) (by omega) e2 dL_law_1623 ?_
  refine zz_aload_n 1624 Z.1.1 0 dL_law_1624 rfl ?_
  refine zz_iload 1625 Z.1.1 5 dL_law_1625 rfl ?_
  refine zz_iconst 1627 Z.1.1 (v := nI 3) dL_law_1627 rfl ?_
  refine zz_iadd 1628 Z.1.1 (v := nI (i + 3)) dL_law_1628 (nI_add i 3) ?_
  refine lw_sld 1629 Z (j := i + 3) (by omega) e3 dL_law_1629 ?_
  refine zz_aload_n 1630 Z.1.1 0 dL_law_1630 rfl ?_
  refine zz_iload 1631 Z.1.1 5 dL_law_1631 rfl ?_
  refine zz_iconst 1633 Z.1.1 (v := nI 4) dL_law_1633 rfl ?_
  refine zz_iadd 1634 Z.1.1 (v := nI (i + 4)) dL_law_1634 (nI_add i 4) ?_
  refine lw_sld 1635 Z (j := i + 4) (by omega) e4 dL_law_1635 ?_
  refine zz_aload_n 1636 Z.1.1 3 dL_law_1636 rfl ?_
  obtain ⟨kc, rb, o', CU, RV, postR, hW, hR, hp, hq, hk, hv⟩ := pr_takePart l Z.2.2.1 D C cD K KR adK adV ao Z.2.2.2.2.2.1.1.1 Z.2.2.2.2.2.1.1.2 Z.2.2.2.2.2.1.aoD u v o hI x1 x2 x3 x4
  refine lw_callW 1637 Z (na := 6) (As := [.int x1, .int x2, .int x3, .int x4]) hW gL_law_L_takePart rfl ⟨rfl, rfl⟩ (by decide +kernel) ⟨Nat.le_of_ble_eq_true rfl, Nat.le_of_ble_eq_true rfl⟩ rfl rfl (Nat.le_of_ble_eq_true rfl) hcs dL_law_1637 ?_
  rintro r ⟨q1, q2⟩ ⟨er, eo, hC⟩
  replace eo : q2 = o' := eo
  replace hC : CU q1 := hC
  rw [er]
  refine zz_world (P' := (PL D C cD K KR ao ad q1 v q2 od)) (fun _ h => h) ?_
  refine zz_istore 1640 Z.1.1 (lv' := [(6, .int (nI kc)), (0, .ref b), (1, .ref (K 0)), (2, .ref (KR 0)), (3, .ref ao), (4, .ref ad), (5, .int (nI i))]) dL_law_1640 (by decide) rfl ?_
  refine zz_aload_n 1642 Z.1.1 3 dL_law_1642 rfl ?_
  refine zz_aload_n 1643 Z.1.1 1 dL_law_1643 rfl ?_
  refine zz_iload 1644 Z.1.1 6 dL_law_1644 rfl ?_
  refine zz_iconst 1646 Z.1.1 (v := nI 1) dL_law_1646 rfl ?_
  refine zz_iadd 1647 Z.1.1 (v := nI (i + 1)) dL_law_1647 (nI_add i 1) ?_
  refine lw_sld 1648 Z (j := i + 1) (by omega) e1 dL_law_1648 ?_
  refine zz_aload_n 1649 Z.1.1 1 dL_law_1649 rfl ?_
  refine zz_iload 1650 Z.1.1 6 dL_law_1650 rfl ?_
  refine zz_iconst 1652 Z.1.1 (v := nI 2) dL_law_1652 rfl ?_
  refine zz_iadd 1653 Z.1.1 (v := nI (i + 2)) dL_law_1653 (nI_add i 2) ?_
  refine lw_sld 1654 Z (j := i + 2) (by omega) e2 dL_law_1654 ?_
  refine zz_aload_n 1655 Z.1.1 1 dL_law_1655 rfl ?_
  refine zz_iload 1656 Z.1.1 6 dL_law_1656 rfl ?_
  refine zz_iconst 1658 Z.1.1 (v := nI 3) dL_law_1658 rfl ?_
  refine zz_iadd 1659 Z.1.1 (v := nI (i + 3)) dL_law_1659 (nI_add i 3) ?_
  refine lw_sld 1660 Z (j := i + 3) (by omega) e3 dL_law_1660 ?_
  refine zz_aload_n 1661 Z.1.1 1 dL_law_1661 rfl ?_
  refine zz_iload 1662 Z.1.1 6 dL_law_1662 rfl ?_
  refine zz_iconst 1664 Z.1.1 (v := nI 4) dL_law_1664 rfl ?_
  refine zz_iadd 1665 Z.1.1 (v := nI (i + 4)) dL_law_1665 (nI_add i 4) ?_
  refine lw_sld 1666 Z (j := i + 4) (by omega) e4 dL_law_1666 ?_
  refine lw_callRi 1667 Z (As := [.int x1, .int x2, .int x3, .int x4]) hR gL_law_X7_takePart rfl ⟨rfl, rfl⟩ yd_X7_takePart ⟨Nat.le_of_ble_eq_true rfl, Nat.le_of_ble_eq_true rfl⟩ rfl rfl (Nat.le_of_ble_eq_true rfl) hcs dL_law_1667 ?_
  intro r2 w hw2
  obtain ⟨er2, hV⟩ := hp r2 w hw2
  rw [er2]
  have hIN := hq q1 w hC hV
  refine zz_istore 1670 Z.1.1 (lv' := [(7, .int rb), (6, .int (nI kc)), (0, .ref b), (1, .ref (K 0)), (2, .ref (KR 0)), (3, .ref ao), (4, .ref ad), (5, .int (nI i))]) dL_law_1670 (by decide) rfl ?_
  refine zz_aload_n 1672 Z.1.1 4 dL_law_1672 rfl ?_
  refine lw_callRi 1673 Z (As := []) (kt_X7_thrown l D C KR Z.2.2.2.2.2.1.1.2 w.1 w.2.1 w.2.2.1 w.2.2.2 kc hIN.1) gL_law_X7_thrown rfl ⟨rfl, rfl⟩ yd_X7_thrown ⟨Nat.le_of_ble_eq_true rfl, Nat.le_of_ble_eq_true rfl⟩ rfl rfl (Nat.le_of_ble_eq_true rfl) hcs dL_law_1673 ?_
  rintro r3 w3 ⟨er3, ew3⟩
  subst ew3
  rw [er3]
  refine zz_world (P' := (PL D C cD K KR ao ad q1 w q2 od)) (fun _ h => h) ?_
  refine zz_iload 1676 Z.1.1 1 dL_law_1676 rfl ?_
  refine zz_icmp_eq 1678 1683 Z.1.1 (nI_toInt (by omega)) (nI_toInt (by omega)) dL_law_1678 (by decide) (fun h => ?_) (fun h => ?_)
  · skip
    refine zz_iload 1683 Z.1.1 1 dL_law_1683 rfl ?_
    refine zz_if_ne 1685 1700 Z.1.1 (nI_toInt (by omega)) dL_law_1685 (by decide) (fun h0 => ?_) (fun h0 => ?_)
    · skip
      refine zz_goto 1700 3988 Z.1.1 dL_law_1700 (by decide) ?_
      refine zz_lvs [2, 3, 4, 5, 6, 7] rfl ?_
      exact kk q1 w q2 od _ _ hIN.2 (by omega) (by omega)
    · skip
      have hv0 := hv (by omega)
      rw [← eo] at hv0
      refine zz_aload_n 1688 Z.1.1 5 dL_law_1688 rfl ?_
      refine zz_iconst 1689 Z.1.1 (v := nI 0) dL_law_1689 rfl ?_
      refine lw_lld 1690 Z dL_law_1690 ?_
      refine zz_iload 1691 Z.1.1 0 dL_law_1691 rfl ?_
      refine zz_i2l 1693 Z.1.1 dL_law_1693 rfl ?_
      refine zz_lcmp 1694 Z.1.1 dL_law_1694 ?_
      refine zz_ifL_eq 1695 1700 Z.1.1 dL_law_1695 (by decide) (fun h => ?_) (fun h => ?_)
      · skip
        refine zz_goto 1700 3988 Z.1.1 dL_law_1700 (by decide) ?_
        refine zz_lvs [2, 3, 4, 5, 6, 7] rfl ?_
        exact kk q1 w q2 od _ _ hIN.2 (by omega) (by omega)
      · exact absurd (hv0) h
  · exact absurd rfl h

set_option maxHeartbeats 8000000 in
set_option maxRecDepth 100000 in
theorem cs_shift {p : Program} {l : Launch} {e : Env} {s : State} {m : MethodId} {args : Array Value} {below : List Frame} {meth : Method} {c : Code} {Q : State → Prop} {D : va_G} {C : Nat → ClassId} {cD : ClassId} {K KR : Nat → Nat} {A : Nat → Prop} {adK adV : Nat → Nat} {ao ad b L : Nat} {xs : Nat → Int32} {u : CSt} {v : MSt} {o : Int64} {od : UInt64} {cells slots i : Nat} (Z : LCx p l s m args c meth A D C cD K KR adK adV ao ad b L xs) (hI : INV u v) (hi : i + 8 ≤ L) (hcs : cells + 1 ≤ room_1.cells ∧ slots + 6 ≤ room_1.slots) (kk : NXT p l e s m args below meth c Q A D C cD K KR ao ad b i cells slots) : ZZ p l e room_1 s m args below meth c cells slots Q A (PL D C cD K KR ao ad u v o od) 10 (lvL b (K 0) (KR 0) ao ad i) [] 1703 := by
  obtain ⟨x1, e1⟩ : ∃ z : Int32, xs (i + 1) = z := ⟨_, rfl⟩
  obtain ⟨x2, e2⟩ : ∃ z : Int32, xs (i + 2) = z := ⟨_, rfl⟩
  refine zz_aload_n 1703 Z.1.1 1 dL_law_1703 rfl ?_
  refine zz_aload_n 1704 Z.1.1 0 dL_law_1704 rfl ?_
  refine zz_iload 1705 Z.1.1 5 dL_law_1705 rfl ?_
  refine zz_iconst 1707 Z.1.1 (v := nI 1) dL_law_1707 rfl ?_
  refine zz_iadd 1708 Z.1.1 (v := nI (i + 1)) dL_law_1708 (nI_add i 1) ?_
  refine lw_sld 1709 Z (j := i + 1) (by omega) e1 dL_law_1709 ?_
  refine zz_aload_n 1710 Z.1.1 0 dL_law_1710 rfl ?_
  refine zz_iload 1711 Z.1.1 5 dL_law_1711 rfl ?_
  refine zz_iconst 1713 Z.1.1 (v := nI 2) dL_law_1713 rfl ?_
  refine zz_iadd 1714 Z.1.1 (v := nI (i + 2)) dL_law_1714 (nI_add i 2) ?_
  refine lw_sld 1715 Z (j := i + 2) (by omega) e2 dL_law_1715 ?_
  refine zz_aload_n 1716 Z.1.1 3 dL_law_1716 rfl ?_
  obtain ⟨kc, rb, o', CU, RV, postR, hW, hR, hp, hq, hk, hv⟩ := pr_shift l Z.2.2.1 D C cD K KR adK adV ao Z.2.2.2.2.2.1.1.1 Z.2.2.2.2.2.1.1.2 Z.2.2.2.2.2.1.aoD u v o hI x1 x2
  refine lw_callW 1717 Z (na := 4) (As := [.int x1, .int x2]) hW gL_law_L_shift rfl ⟨rfl, rfl⟩ (by decide +kernel) ⟨Nat.le_of_ble_eq_true rfl, Nat.le_of_ble_eq_true rfl⟩ rfl rfl (Nat.le_of_ble_eq_true rfl) hcs dL_law_1717 ?_
  rintro r ⟨q1, q2⟩ ⟨er, eo, hC⟩
  replace eo : q2 = o' := eo
  replace hC : CU q1 := hC
  rw [er]
  refine zz_world (P' := (PL D C cD K KR ao ad q1 v q2 od)) (fun _ h => h) ?_
  refine zz_istore 1720 Z.1.1 (lv' := [(6, .int (nI kc)), (0, .ref b), (1, .ref (K 0)), (2, .ref (KR 0)), (3, .ref ao), (4, .ref ad), (5, .int (nI i))]) dL_law_1720 (by decide) rfl ?_
  refine zz_aload_n 1722 Z.1.1 3 dL_law_1722 rfl ?_
  refine zz_aload_n 1723 Z.1.1 1 dL_law_1723 rfl ?_
  refine zz_iload 1724 Z.1.1 6 dL_law_1724 rfl ?_
  refine zz_iconst 1726 Z.1.1 (v := nI 1) dL_law_1726 rfl ?_
  refine zz_iadd 1727 Z.1.1 (v := nI (i + 1)) dL_law_1727 (nI_add i 1) ?_
  refine lw_sld 1728 Z (j := i + 1) (by omega) e1 dL_law_1728 ?_
  refine zz_aload_n 1729 Z.1.1 1 dL_law_1729 rfl ?_
  refine zz_iload 1730 Z.1.1 6 dL_law_1730 rfl ?_
  refine zz_iconst 1732 Z.1.1 (v := nI 2) dL_law_1732 rfl ?_
  refine zz_iadd 1733 Z.1.1 (v := nI (i + 2)) dL_law_1733 (nI_add i 2) ?_
  refine lw_sld 1734 Z (j := i + 2) (by omega) e2 dL_law_1734 ?_
  refine lw_callRi 1735 Z (As := [.int x1, .int x2]) hR gL_law_X7_shift rfl ⟨rfl, rfl⟩ yd_X7_shift ⟨Nat.le_of_ble_eq_true rfl, Nat.le_of_ble_eq_true rfl⟩ rfl rfl (Nat.le_of_ble_eq_true rfl) hcs dL_law_1735 ?_
  intro r2 w hw2
  obtain ⟨er2, hV⟩ := hp r2 w hw2
  rw [er2]
  have hIN := hq q1 w hC hV
  refine zz_istore 1738 Z.1.1 (lv' := [(7, .int rb), (6, .int (nI kc)), (0, .ref b), (1, .ref (K 0)), (2, .ref (KR 0)), (3, .ref ao), (4, .ref ad), (5, .int (nI i))]) dL_law_1738 (by decide) rfl ?_
  refine zz_aload_n 1740 Z.1.1 4 dL_law_1740 rfl ?_
  refine lw_callRi 1741 Z (As := []) (kt_X7_thrown l D C KR Z.2.2.2.2.2.1.1.2 w.1 w.2.1 w.2.2.1 w.2.2.2 kc hIN.1) gL_law_X7_thrown rfl ⟨rfl, rfl⟩ yd_X7_thrown ⟨Nat.le_of_ble_eq_true rfl, Nat.le_of_ble_eq_true rfl⟩ rfl rfl (Nat.le_of_ble_eq_true rfl) hcs dL_law_1741 ?_
  rintro r3 w3 ⟨er3, ew3⟩
  subst ew3
  rw [er3]
  refine zz_world (P' := (PL D C cD K KR ao ad q1 w q2 od)) (fun _ h => h) ?_
  refine zz_iload 1744 Z.1.1 1 dL_law_1744 rfl ?_
  refine zz_icmp_eq 1746 1751 Z.1.1 (nI_toInt (by omega)) (nI_toInt (by omega)) dL_law_1746 (by decide) (fun h => ?_) (fun h => ?_)
  · skip
    refine zz_iload 1751 Z.1.1 1 dL_law_1751 rfl ?_
    refine zz_if_ne 1753 1768 Z.1.1 (nI_toInt (by omega)) dL_law_1753 (by decide) (fun h0 => ?_) (fun h0 => ?_)
    · skip
      refine zz_goto 1768 3988 Z.1.1 dL_law_1768 (by decide) ?_
      refine zz_lvs [2, 3, 4, 5, 6, 7] rfl ?_
      exact kk q1 w q2 od _ _ hIN.2 (by omega) (by omega)
    · skip
      have hv0 := hv (by omega)
      rw [← eo] at hv0
      refine zz_aload_n 1756 Z.1.1 5 dL_law_1756 rfl ?_
      refine zz_iconst 1757 Z.1.1 (v := nI 0) dL_law_1757 rfl ?_
      refine lw_lld 1758 Z dL_law_1758 ?_
      refine zz_iload 1759 Z.1.1 0 dL_law_1759 rfl ?_
      refine zz_i2l 1761 Z.1.1 dL_law_1761 rfl ?_
      refine zz_lcmp 1762 Z.1.1 dL_law_1762 ?_
      refine zz_ifL_eq 1763 1768 Z.1.1 dL_law_1763 (by decide) (fun h => ?_) (fun h => ?_)
      · skip
        refine zz_goto 1768 3988 Z.1.1 dL_law_1768 (by decide) ?_
        refine zz_lvs [2, 3, 4, 5, 6, 7] rfl ?_
        exact kk q1 w q2 od _ _ hIN.2 (by omega) (by omega)
      · exact absurd (hv0) h
  · exact absurd rfl h

set_option maxHeartbeats 8000000 in
set_option maxRecDepth 100000 in
theorem cs_sieve {p : Program} {l : Launch} {e : Env} {s : State} {m : MethodId} {args : Array Value} {below : List Frame} {meth : Method} {c : Code} {Q : State → Prop} {D : va_G} {C : Nat → ClassId} {cD : ClassId} {K KR : Nat → Nat} {A : Nat → Prop} {adK adV : Nat → Nat} {ao ad b L : Nat} {xs : Nat → Int32} {u : CSt} {v : MSt} {o : Int64} {od : UInt64} {cells slots i : Nat} (Z : LCx p l s m args c meth A D C cD K KR adK adV ao ad b L xs) (hI : INV u v) (hi : i + 8 ≤ L) (hcs : cells + 1 ≤ room_1.cells ∧ slots + 6 ≤ room_1.slots) (kk : NXT p l e s m args below meth c Q A D C cD K KR ao ad b i cells slots) : ZZ p l e room_1 s m args below meth c cells slots Q A (PL D C cD K KR ao ad u v o od) 10 (lvL b (K 0) (KR 0) ao ad i) [] 1771 := by
  obtain ⟨x1, e1⟩ : ∃ z : Int32, xs (i + 1) = z := ⟨_, rfl⟩
  obtain ⟨x2, e2⟩ : ∃ z : Int32, xs (i + 2) = z := ⟨_, rfl⟩
  refine zz_aload_n 1771 Z.1.1 1 dL_law_1771 rfl ?_
  refine zz_aload_n 1772 Z.1.1 0 dL_law_1772 rfl ?_
  refine zz_iload 1773 Z.1.1 5 dL_law_1773 rfl ?_
  refine zz_iconst 1775 Z.1.1 (v := nI 1) dL_law_1775 rfl ?_
  refine zz_iadd 1776 Z.1.1 (v := nI (i + 1)) dL_law_1776 (nI_add i 1) ?_
  refine lw_sld 1777 Z (j := i + 1) (by omega) e1 dL_law_1777 ?_
  refine zz_aload_n 1778 Z.1.1 0 dL_law_1778 rfl ?_
  refine zz_iload 1779 Z.1.1 5 dL_law_1779 rfl ?_
  refine zz_iconst 1781 Z.1.1 (v := nI 2) dL_law_1781 rfl ?_
  refine zz_iadd 1782 Z.1.1 (v := nI (i + 2)) dL_law_1782 (nI_add i 2) ?_
  refine lw_sld 1783 Z (j := i + 2) (by omega) e2 dL_law_1783 ?_
  refine zz_aload_n 1784 Z.1.1 3 dL_law_1784 rfl ?_
  obtain ⟨kc, rb, o', CU, RV, postR, hW, hR, hp, hq, hk, hv⟩ := pr_sieve l Z.2.2.1 D C cD K KR adK adV ao Z.2.2.2.2.2.1.1.1 Z.2.2.2.2.2.1.1.2 Z.2.2.2.2.2.1.aoD u v o hI x1 x2
  refine lw_callW 1785 Z (na := 4) (As := [.int x1, .int x2]) hW gL_law_L_sieve rfl ⟨rfl, rfl⟩ (by decide +kernel) ⟨Nat.le_of_ble_eq_true rfl, Nat.le_of_ble_eq_true rfl⟩ rfl rfl (Nat.le_of_ble_eq_true rfl) hcs dL_law_1785 ?_
  rintro r ⟨q1, q2⟩ ⟨er, eo, hC⟩
  replace eo : q2 = o' := eo
  replace hC : CU q1 := hC
  rw [er]
  refine zz_world (P' := (PL D C cD K KR ao ad q1 v q2 od)) (fun _ h => h) ?_
  refine zz_istore 1788 Z.1.1 (lv' := [(6, .int (nI kc)), (0, .ref b), (1, .ref (K 0)), (2, .ref (KR 0)), (3, .ref ao), (4, .ref ad), (5, .int (nI i))]) dL_law_1788 (by decide) rfl ?_
  refine zz_aload_n 1790 Z.1.1 3 dL_law_1790 rfl ?_
  refine zz_aload_n 1791 Z.1.1 1 dL_law_1791 rfl ?_
  refine zz_iload 1792 Z.1.1 6 dL_law_1792 rfl ?_
  refine zz_iconst 1794 Z.1.1 (v := nI 1) dL_law_1794 rfl ?_
  refine zz_iadd 1795 Z.1.1 (v := nI (i + 1)) dL_law_1795 (nI_add i 1) ?_
  refine lw_sld 1796 Z (j := i + 1) (by omega) e1 dL_law_1796 ?_
  refine zz_aload_n 1797 Z.1.1 1 dL_law_1797 rfl ?_
  refine zz_iload 1798 Z.1.1 6 dL_law_1798 rfl ?_
  refine zz_iconst 1800 Z.1.1 (v := nI 2) dL_law_1800 rfl ?_
  refine zz_iadd 1801 Z.1.1 (v := nI (i + 2)) dL_law_1801 (nI_add i 2) ?_
  refine lw_sld 1802 Z (j := i + 2) (by omega) e2 dL_law_1802 ?_
  refine lw_callRi 1803 Z (As := [.int x1, .int x2]) hR gL_law_X7_sieve rfl ⟨rfl, rfl⟩ yd_X7_sieve ⟨Nat.le_of_ble_eq_true rfl, Nat.le_of_ble_eq_true rfl⟩ rfl rfl (Nat.le_of_ble_eq_true rfl) hcs dL_law_1803 ?_
  intro r2 w hw2
  obtain ⟨er2, hV⟩ := hp r2 w hw2
  rw [er2]
  have hIN := hq q1 w hC hV
  refine zz_istore 1806 Z.1.1 (lv' := [(7, .int rb), (6, .int (nI kc)), (0, .ref b), (1, .ref (K 0)), (2, .ref (KR 0)), (3, .ref ao), (4, .ref ad), (5, .int (nI i))]) dL_law_1806 (by decide) rfl ?_
  refine zz_aload_n 1808 Z.1.1 4 dL_law_1808 rfl ?_
  refine lw_callRi 1809 Z (As := []) (kt_X7_thrown l D C KR Z.2.2.2.2.2.1.1.2 w.1 w.2.1 w.2.2.1 w.2.2.2 kc hIN.1) gL_law_X7_thrown rfl ⟨rfl, rfl⟩ yd_X7_thrown ⟨Nat.le_of_ble_eq_true rfl, Nat.le_of_ble_eq_true rfl⟩ rfl rfl (Nat.le_of_ble_eq_true rfl) hcs dL_law_1809 ?_
  rintro r3 w3 ⟨er3, ew3⟩
  subst ew3
  rw [er3]
  refine zz_world (P' := (PL D C cD K KR ao ad q1 w q2 od)) (fun _ h => h) ?_
  refine zz_iload 1812 Z.1.1 1 dL_law_1812 rfl ?_
  refine zz_icmp_eq 1814 1819 Z.1.1 (nI_toInt (by omega)) (nI_toInt (by omega)) dL_law_1814 (by decide) (fun h => ?_) (fun h => ?_)
  · skip
    refine zz_iload 1819 Z.1.1 1 dL_law_1819 rfl ?_
    refine zz_if_ne 1821 1836 Z.1.1 (nI_toInt (by omega)) dL_law_1821 (by decide) (fun h0 => ?_) (fun h0 => ?_)
    · skip
      refine zz_goto 1836 3988 Z.1.1 dL_law_1836 (by decide) ?_
      refine zz_lvs [2, 3, 4, 5, 6, 7] rfl ?_
      exact kk q1 w q2 od _ _ hIN.2 (by omega) (by omega)
    · skip
      have hv0 := hv (by omega)
      rw [← eo] at hv0
      refine zz_aload_n 1824 Z.1.1 5 dL_law_1824 rfl ?_
      refine zz_iconst 1825 Z.1.1 (v := nI 0) dL_law_1825 rfl ?_
      refine lw_lld 1826 Z dL_law_1826 ?_
      refine zz_iload 1827 Z.1.1 0 dL_law_1827 rfl ?_
      refine zz_i2l 1829 Z.1.1 dL_law_1829 rfl ?_
      refine zz_lcmp 1830 Z.1.1 dL_law_1830 ?_
      refine zz_ifL_eq 1831 1836 Z.1.1 dL_law_1831 (by decide) (fun h => ?_) (fun h => ?_)
      · skip
        refine zz_goto 1836 3988 Z.1.1 dL_law_1836 (by decide) ?_
        refine zz_lvs [2, 3, 4, 5, 6, 7] rfl ?_
        exact kk q1 w q2 od _ _ hIN.2 (by omega) (by omega)
      · exact absurd (hv0) h
  · exact absurd rfl h

set_option maxHeartbeats 8000000 in
set_option maxRecDepth 100000 in
theorem cs_loadWords {p : Program} {l : Launch} {e : Env} {s : State} {m : MethodId} {args : Array Value} {below : List Frame} {meth : Method} {c : Code} {Q : State → Prop} {D : va_G} {C : Nat → ClassId} {cD : ClassId} {K KR : Nat → Nat} {A : Nat → Prop} {adK adV : Nat → Nat} {ao ad b L : Nat} {xs : Nat → Int32} {u : CSt} {v : MSt} {o : Int64} {od : UInt64} {cells slots i : Nat} (Z : LCx p l s m args c meth A D C cD K KR adK adV ao ad b L xs) (hI : INV u v) (hi : i + 8 ≤ L) (hcs : cells + 1 ≤ room_1.cells ∧ slots + 6 ≤ room_1.slots) (kk : NXT p l e s m args below meth c Q A D C cD K KR ao ad b i cells slots) : ZZ p l e room_1 s m args below meth c cells slots Q A (PL D C cD K KR ao ad u v o od) 10 (lvL b (K 0) (KR 0) ao ad i) [] 1839 := by
  obtain ⟨x1, e1⟩ : ∃ z : Int32, xs (i + 1) = z := ⟨_, rfl⟩
  obtain ⟨x2, e2⟩ : ∃ z : Int32, xs (i + 2) = z := ⟨_, rfl⟩
  obtain ⟨x3, e3⟩ : ∃ z : Int32, xs (i + 3) = z := ⟨_, rfl⟩
  obtain ⟨x4, e4⟩ : ∃ z : Int32, xs (i + 4) = z := ⟨_, rfl⟩
  obtain ⟨x5, e5⟩ : ∃ z : Int32, xs (i + 5) = z := ⟨_, rfl⟩
  obtain ⟨x6, e6⟩ : ∃ z : Int32, xs (i + 6) = z := ⟨_, rfl⟩
  obtain ⟨x7, e7⟩ : ∃ z : Int32, xs (i + 7) = z := ⟨_, rfl⟩
  obtain ⟨w1, ew1⟩ : ∃ z : Int64, (x2.toInt64 <<< ((nI 32).toInt64 &&& 63)) ||| (x3.toInt64 &&& 4294967295) = z := ⟨_, rfl⟩
  obtain ⟨w2, ew2⟩ : ∃ z : Int64, (x4.toInt64 <<< ((nI 32).toInt64 &&& 63)) ||| (x5.toInt64 &&& 4294967295) = z := ⟨_, rfl⟩
  obtain ⟨w3, ew3⟩ : ∃ z : Int64, (x6.toInt64 <<< ((nI 32).toInt64 &&& 63)) ||| (x7.toInt64 &&& 4294967295) = z := ⟨_, rfl⟩
  refine zz_aload_n 1839 Z.1.1 1 dL_law_1839 rfl ?_
  refine zz_aload_n 1840 Z.1.1 0 dL_law_1840 rfl ?_
  refine zz_iload 1841 Z.1.1 5 dL_law_1841 rfl ?_
  refine zz_iconst 1843 Z.1.1 (v := nI 1) dL_law_1843 rfl ?_
  refine zz_iadd 1844 Z.1.1 (v := nI (i + 1)) dL_law_1844 (nI_add i 1) ?_
  refine lw_sld 1845 Z (j := i + 1) (by omega) e1 dL_law_1845 ?_
  refine zz_aload_n 1846 Z.1.1 0 dL_law_1846 rfl ?_
  refine zz_iload 1847 Z.1.1 5 dL_law_1847 rfl ?_
  refine zz_iconst 1849 Z.1.1 (v := nI 2) dL_law_1849 rfl ?_
  refine zz_iadd 1850 Z.1.1 (v := nI (i + 2)) dL_law_1850 (nI_add i 2) ?_
  refine lw_sld 1851 Z (j := i + 2) (by omega) e2 dL_law_1851 ?_
  refine zz_i2l 1852 Z.1.1 dL_law_1852 rfl ?_
  refine zz_bipush 1853 Z.1.1 (v := nI 32) dL_law_1853 rfl ?_
  refine zz_lshl 1855 Z.1.1 (v := x2.toInt64 <<< ((nI 32).toInt64 &&& 63)) dL_law_1855 rfl ?_
  refine zz_aload_n 1856 Z.1.1 0 dL_law_1856 rfl ?_
  refine zz_iload 1857 Z.1.1 5 dL_law_1857 rfl ?_
  refine zz_iconst 1859 Z.1.1 (v := nI 3) dL_law_1859 rfl ?_
  refine zz_iadd 1860 Z.1.1 (v := nI (i + 3)) dL_law_1860 (nI_add i 3) ?_
  refine lw_sld 1861 Z (j := i + 3) (by omega) e3 dL_law_1861 ?_
  refine zz_i2l 1862 Z.1.1 dL_law_1862 rfl ?_
  refine zz_ldc2 1863 Z.1.1 (v := 4294967295) dL_law_1863 Z.1.2.2.1 (Z.1.2.1 _ (by decide +kernel)) ?_
  refine zz_land 1866 Z.1.1 (v := x3.toInt64 &&& 4294967295) dL_law_1866 rfl ?_
  refine zz_lor 1867 Z.1.1 (v := w1) dL_law_1867 ew1 ?_
  refine zz_aload_n 1868 Z.1.1 0 dL_law_1868 rfl ?_
  refine zz_iload 1869 Z.1.1 5 dL_law_1869 rfl ?_
  refine zz_iconst 1871 Z.1.1 (v := nI 4) dL_law_1871 rfl ?_
  refine zz_iadd 1872 Z.1.1 (v := nI (i + 4)) dL_law_1872 (nI_add i 4) ?_
  refine lw_sld 1873 Z (j := i + 4) (by omega) e4 dL_law_1873 ?_
  refine zz_i2l 1874 Z.1.1 dL_law_1874 rfl ?_
  refine zz_bipush 1875 Z.1.1 (v := nI 32) dL_law_1875 rfl ?_
  refine zz_lshl 1877 Z.1.1 (v := x4.toInt64 <<< ((nI 32).toInt64 &&& 63)) dL_law_1877 rfl ?_
  refine zz_aload_n 1878 Z.1.1 0 dL_law_1878 rfl ?_
  refine zz_iload 1879 Z.1.1 5 dL_law_1879 rfl ?_
  refine zz_iconst 1881 Z.1.1 (v := nI 5) dL_law_1881 rfl ?_
  refine zz_iadd 1882 Z.1.1 (v := nI (i + 5)) dL_law_1882 (nI_add i 5) ?_
  refine lw_sld 1883 Z (j := i + 5) (by omega) e5 dL_law_1883 ?_
  refine zz_i2l 1884 Z.1.1 dL_law_1884 rfl ?_
  refine zz_ldc2 1885 Z.1.1 (v := 4294967295) dL_law_1885 Z.1.2.2.1 (Z.1.2.1 _ (by decide +kernel)) ?_
  refine zz_land 1888 Z.1.1 (v := x5.toInt64 &&& 4294967295) dL_law_1888 rfl ?_
  refine zz_lor 1889 Z.1.1 (v := w2) dL_law_1889 ew2 ?_
  refine zz_aload_n 1890 Z.1.1 0 dL_law_1890 rfl ?_
  refine zz_iload 1891 Z.1.1 5 dL_law_1891 rfl ?_
  refine zz_bipush 1893 Z.1.1 (v := nI 6) dL_law_1893 rfl ?_
  refine zz_iadd 1895 Z.1.1 (v := nI (i + 6)) dL_law_1895 (nI_add i 6) ?_
  refine lw_sld 1896 Z (j := i + 6) (by omega) e6 dL_law_1896 ?_
  refine zz_i2l 1897 Z.1.1 dL_law_1897 rfl ?_
  refine zz_bipush 1898 Z.1.1 (v := nI 32) dL_law_1898 rfl ?_
  refine zz_lshl 1900 Z.1.1 (v := x6.toInt64 <<< ((nI 32).toInt64 &&& 63)) dL_law_1900 rfl ?_
  refine zz_aload_n 1901 Z.1.1 0 dL_law_1901 rfl ?_
  refine zz_iload 1902 Z.1.1 5 dL_law_1902 rfl ?_
  refine zz_bipush 1904 Z.1.1 (v := nI 7) dL_law_1904 rfl ?_
  refine zz_iadd 1906 Z.1.1 (v := nI (i + 7)) dL_law_1906 (nI_add i 7) ?_
  refine lw_sld 1907 Z (j := i + 7) (by omega) e7 dL_law_1907 ?_
  refine zz_i2l 1908 Z.1.1 dL_law_1908 rfl ?_
  refine zz_ldc2 1909 Z.1.1 (v := 4294967295) dL_law_1909 Z.1.2.2.1 (Z.1.2.1 _ (by decide +kernel)) ?_
  refine zz_land 1912 Z.1.1 (v := x7.toInt64 &&& 4294967295) dL_law_1912 rfl ?_
  refine zz_lor 1913 Z.1.1 (v := w3) dL_law_1913 ew3 ?_
  refine zz_aload_n 1914 Z.1.1 3 dL_law_1914 rfl ?_
  obtain ⟨kc, rb, o', CU, RV, postR, hW, hR, hp, hq, hk, hv⟩ := pr_loadWords l Z.2.2.1 D C cD K KR adK adV ao Z.2.2.2.2.2.1.1.1 Z.2.2.2.2.2.1.1.2 Z.2.2.2.2.2.1.aoD u v o hI x1 w1 w2 w3
  refine lw_callW 1915 Z (na := 6) (As := [.int x1, .long w1, .long w2, .long w3]) hW gL_law_L_loadWords rfl ⟨rfl, rfl⟩ (by decide +kernel) ⟨Nat.le_of_ble_eq_true rfl, Nat.le_of_ble_eq_true rfl⟩ rfl rfl (Nat.le_of_ble_eq_true rfl) hcs dL_law_1915 ?_
  rintro r ⟨q1, q2⟩ ⟨er, eo, hC⟩
  replace eo : q2 = o' := eo
  replace hC : CU q1 := hC
  rw [er]
  refine zz_world (P' := (PL D C cD K KR ao ad q1 v q2 od)) (fun _ h => h) ?_
  refine zz_istore 1918 Z.1.1 (lv' := [(6, .int (nI kc)), (0, .ref b), (1, .ref (K 0)), (2, .ref (KR 0)), (3, .ref ao), (4, .ref ad), (5, .int (nI i))]) dL_law_1918 (by decide) rfl ?_
  refine zz_aload_n 1920 Z.1.1 3 dL_law_1920 rfl ?_
  refine zz_aload_n 1921 Z.1.1 1 dL_law_1921 rfl ?_
  refine zz_iload 1922 Z.1.1 6 dL_law_1922 rfl ?_
  refine zz_iconst 1924 Z.1.1 (v := nI 1) dL_law_1924 rfl ?_
  refine zz_iadd 1925 Z.1.1 (v := nI (i + 1)) dL_law_1925 (nI_add i 1) ?_
  refine lw_sld 1926 Z (j := i + 1) (by omega) e1 dL_law_1926 ?_
  refine zz_aload_n 1927 Z.1.1 1 dL_law_1927 rfl ?_
  refine zz_iload 1928 Z.1.1 6 dL_law_1928 rfl ?_
  refine zz_iconst 1930 Z.1.1 (v := nI 2) dL_law_1930 rfl ?_
  refine zz_iadd 1931 Z.1.1 (v := nI (i + 2)) dL_law_1931 (nI_add i 2) ?_
  refine lw_sld 1932 Z (j := i + 2) (by omega) e2 dL_law_1932 ?_
  refine zz_i2l 1933 Z.1.1 dL_law_1933 rfl ?_
  refine zz_bipush 1934 Z.1.1 (v := nI 32) dL_law_1934 rfl ?_
  refine zz_lshl 1936 Z.1.1 (v := x2.toInt64 <<< ((nI 32).toInt64 &&& 63)) dL_law_1936 rfl ?_
  refine zz_aload_n 1937 Z.1.1 1 dL_law_1937 rfl ?_
  refine zz_iload 1938 Z.1.1 6 dL_law_1938 rfl ?_
  refine zz_iconst 1940 Z.1.1 (v := nI 3) dL_law_1940 rfl ?_
  refine zz_iadd 1941 Z.1.1 (v := nI (i + 3)) dL_law_1941 (nI_add i 3) ?_
  refine lw_sld 1942 Z (j := i + 3) (by omega) e3 dL_law_1942 ?_
  refine zz_i2l 1943 Z.1.1 dL_law_1943 rfl ?_
  refine zz_ldc2 1944 Z.1.1 (v := 4294967295) dL_law_1944 Z.1.2.2.1 (Z.1.2.1 _ (by decide +kernel)) ?_
  refine zz_land 1947 Z.1.1 (v := x3.toInt64 &&& 4294967295) dL_law_1947 rfl ?_
  refine zz_lor 1948 Z.1.1 (v := w1) dL_law_1948 ew1 ?_
  refine zz_aload_n 1949 Z.1.1 1 dL_law_1949 rfl ?_
  refine zz_iload 1950 Z.1.1 6 dL_law_1950 rfl ?_
  refine zz_iconst 1952 Z.1.1 (v := nI 4) dL_law_1952 rfl ?_
  refine zz_iadd 1953 Z.1.1 (v := nI (i + 4)) dL_law_1953 (nI_add i 4) ?_
  refine lw_sld 1954 Z (j := i + 4) (by omega) e4 dL_law_1954 ?_
  refine zz_i2l 1955 Z.1.1 dL_law_1955 rfl ?_
  refine zz_bipush 1956 Z.1.1 (v := nI 32) dL_law_1956 rfl ?_
  refine zz_lshl 1958 Z.1.1 (v := x4.toInt64 <<< ((nI 32).toInt64 &&& 63)) dL_law_1958 rfl ?_
  refine zz_aload_n 1959 Z.1.1 1 dL_law_1959 rfl ?_
  refine zz_iload 1960 Z.1.1 6 dL_law_1960 rfl ?_
  refine zz_iconst 1962 Z.1.1 (v := nI 5) dL_law_1962 rfl ?_
  refine zz_iadd 1963 Z.1.1 (v := nI (i + 5)) dL_law_1963 (nI_add i 5) ?_
  refine lw_sld 1964 Z (j := i + 5) (by omega) e5 dL_law_1964 ?_
  refine zz_i2l 1965 Z.1.1 dL_law_1965 rfl ?_
  refine zz_ldc2 1966 Z.1.1 (v := 4294967295) dL_law_1966 Z.1.2.2.1 (Z.1.2.1 _ (by decide +kernel)) ?_
  refine zz_land 1969 Z.1.1 (v := x5.toInt64 &&& 4294967295) dL_law_1969 rfl ?_
  refine zz_lor 1970 Z.1.1 (v := w2) dL_law_1970 ew2 ?_
  refine zz_aload_n 1971 Z.1.1 1 dL_law_1971 rfl ?_
  refine zz_iload 1972 Z.1.1 6 dL_law_1972 rfl ?_
  refine zz_bipush 1974 Z.1.1 (v := nI 6) dL_law_1974 rfl ?_
  refine zz_iadd 1976 Z.1.1 (v := nI (i + 6)) dL_law_1976 (nI_add i 6) ?_
  refine lw_sld 1977 Z (j := i + 6) (by omega) e6 dL_law_1977 ?_
  refine zz_i2l 1978 Z.1.1 dL_law_1978 rfl ?_
  refine zz_bipush 1979 Z.1.1 (v := nI 32) dL_law_1979 rfl ?_
  refine zz_lshl 1981 Z.1.1 (v := x6.toInt64 <<< ((nI 32).toInt64 &&& 63)) dL_law_1981 rfl ?_
  refine zz_aload_n 1982 Z.1.1 1 dL_law_1982 rfl ?_
  refine zz_iload 1983 Z.1.1 6 dL_law_1983 rfl ?_
  refine zz_bipush 1985 Z.1.1 (v := nI 7) dL_law_1985 rfl ?_
  refine zz_iadd 1987 Z.1.1 (v := nI (i + 7)) dL_law_1987 (nI_add i 7) ?_
  refine lw_sld 1988 Z (j := i + 7) (by omega) e7 dL_law_1988 ?_
  refine zz_i2l 1989 Z.1.1 dL_law_1989 rfl ?_
  refine zz_ldc2 1990 Z.1.1 (v := 4294967295) dL_law_1990 Z.1.2.2.1 (Z.1.2.1 _ (by decide +kernel)) ?_
  refine zz_land 1993 Z.1.1 (v := x7.toInt64 &&& 4294967295) dL_law_1993 rfl ?_
  refine zz_lor 1994 Z.1.1 (v := w3) dL_law_1994 ew3 ?_
  refine lw_callRi 1995 Z (As := [.int x1, .long w1, .long w2, .long w3]) hR gL_law_X7_loadWords rfl ⟨rfl, rfl⟩ yd_X7_loadWords ⟨Nat.le_of_ble_eq_true rfl, Nat.le_of_ble_eq_true rfl⟩ rfl rfl (Nat.le_of_ble_eq_true rfl) hcs dL_law_1995 ?_
  intro r2 w hw2
  obtain ⟨er2, hV⟩ := hp r2 w hw2
  rw [er2]
  have hIN := hq q1 w hC hV
  refine zz_istore 1998 Z.1.1 (lv' := [(7, .int rb), (6, .int (nI kc)), (0, .ref b), (1, .ref (K 0)), (2, .ref (KR 0)), (3, .ref ao), (4, .ref ad), (5, .int (nI i))]) dL_law_1998 (by decide) rfl ?_
  refine zz_aload_n 2000 Z.1.1 4 dL_law_2000 rfl ?_
  refine lw_callRi 2001 Z (As := []) (kt_X7_thrown l D C KR Z.2.2.2.2.2.1.1.2 w.1 w.2.1 w.2.2.1 w.2.2.2 kc hIN.1) gL_law_X7_thrown rfl ⟨rfl, rfl⟩ yd_X7_thrown ⟨Nat.le_of_ble_eq_true rfl, Nat.le_of_ble_eq_true rfl⟩ rfl rfl (Nat.le_of_ble_eq_true rfl) hcs dL_law_2001 ?_
  rintro r3 w3 ⟨er3, ew3⟩
  subst ew3
  rw [er3]
  refine zz_world (P' := (PL D C cD K KR ao ad q1 w q2 od)) (fun _ h => h) ?_
  refine zz_iload 2004 Z.1.1 1 dL_law_2004 rfl ?_
  refine zz_icmp_eq 2006 2011 Z.1.1 (nI_toInt (by omega)) (nI_toInt (by omega)) dL_law_2006 (by decide) (fun h => ?_) (fun h => ?_)
  · skip
    refine zz_iload 2011 Z.1.1 1 dL_law_2011 rfl ?_
    refine zz_if_ne 2013 2028 Z.1.1 (nI_toInt (by omega)) dL_law_2013 (by decide) (fun h0 => ?_) (fun h0 => ?_)
    · skip
      refine zz_goto 2028 3988 Z.1.1 dL_law_2028 (by decide) ?_
      refine zz_lvs [2, 3, 4, 5, 6, 7] rfl ?_
      exact kk q1 w q2 od _ _ hIN.2 (by omega) (by omega)
    · skip
      have hv0 := hv (by omega)
      rw [← eo] at hv0
      refine zz_aload_n 2016 Z.1.1 5 dL_law_2016 rfl ?_
      refine zz_iconst 2017 Z.1.1 (v := nI 0) dL_law_2017 rfl ?_
      refine lw_lld 2018 Z dL_law_2018 ?_
      refine zz_iload 2019 Z.1.1 0 dL_law_2019 rfl ?_
      refine zz_i2l 2021 Z.1.1 dL_law_2021 rfl ?_
      refine zz_lcmp 2022 Z.1.1 dL_law_2022 ?_
      refine zz_ifL_eq 2023 2028 Z.1.1 dL_law_2023 (by decide) (fun h => ?_) (fun h => ?_)
      · skip
        refine zz_goto 2028 3988 Z.1.1 dL_law_2028 (by decide) ?_
        refine zz_lvs [2, 3, 4, 5, 6, 7] rfl ?_
        exact kk q1 w q2 od _ _ hIN.2 (by omega) (by omega)
      · exact absurd (hv0) h
  · exact absurd rfl h

set_option maxHeartbeats 8000000 in
set_option maxRecDepth 100000 in
theorem cs_loadTape {p : Program} {l : Launch} {e : Env} {s : State} {m : MethodId} {args : Array Value} {below : List Frame} {meth : Method} {c : Code} {Q : State → Prop} {D : va_G} {C : Nat → ClassId} {cD : ClassId} {K KR : Nat → Nat} {A : Nat → Prop} {adK adV : Nat → Nat} {ao ad b L : Nat} {xs : Nat → Int32} {u : CSt} {v : MSt} {o : Int64} {od : UInt64} {cells slots i : Nat} (Z : LCx p l s m args c meth A D C cD K KR adK adV ao ad b L xs) (hI : INV u v) (hi : i + 8 ≤ L) (hcs : cells + 1 ≤ room_1.cells ∧ slots + 6 ≤ room_1.slots) (kk : NXT p l e s m args below meth c Q A D C cD K KR ao ad b i cells slots) : ZZ p l e room_1 s m args below meth c cells slots Q A (PL D C cD K KR ao ad u v o od) 10 (lvL b (K 0) (KR 0) ao ad i) [] 2031 := by
  obtain ⟨x1, e1⟩ : ∃ z : Int32, xs (i + 1) = z := ⟨_, rfl⟩
  refine zz_aload_n 2031 Z.1.1 1 dL_law_2031 rfl ?_
  refine zz_aload_n 2032 Z.1.1 0 dL_law_2032 rfl ?_
  refine zz_iload 2033 Z.1.1 5 dL_law_2033 rfl ?_
  refine zz_iconst 2035 Z.1.1 (v := nI 1) dL_law_2035 rfl ?_
  refine zz_iadd 2036 Z.1.1 (v := nI (i + 1)) dL_law_2036 (nI_add i 1) ?_
  refine lw_sld 2037 Z (j := i + 1) (by omega) e1 dL_law_2037 ?_
  refine zz_aload_n 2038 Z.1.1 3 dL_law_2038 rfl ?_
  obtain ⟨kc, rb, o', CU, RV, postR, hW, hR, hp, hq, hk, hv⟩ := pr_loadTape l Z.2.2.1 D C cD K KR adK adV ao Z.2.2.2.2.2.1.1.1 Z.2.2.2.2.2.1.1.2 Z.2.2.2.2.2.1.aoD u v o hI x1
  refine lw_callW 2039 Z (na := 3) (As := [.int x1]) hW gL_law_L_loadTape rfl ⟨rfl, rfl⟩ (by decide +kernel) ⟨Nat.le_of_ble_eq_true rfl, Nat.le_of_ble_eq_true rfl⟩ rfl rfl (Nat.le_of_ble_eq_true rfl) hcs dL_law_2039 ?_
  rintro r ⟨q1, q2⟩ ⟨er, eo, hC⟩
  replace eo : q2 = o' := eo
  replace hC : CU q1 := hC
  rw [er]
  refine zz_world (P' := (PL D C cD K KR ao ad q1 v q2 od)) (fun _ h => h) ?_
  refine zz_istore 2042 Z.1.1 (lv' := [(6, .int (nI kc)), (0, .ref b), (1, .ref (K 0)), (2, .ref (KR 0)), (3, .ref ao), (4, .ref ad), (5, .int (nI i))]) dL_law_2042 (by decide) rfl ?_
  refine zz_aload_n 2044 Z.1.1 3 dL_law_2044 rfl ?_
  refine zz_aload_n 2045 Z.1.1 1 dL_law_2045 rfl ?_
  refine zz_iload 2046 Z.1.1 6 dL_law_2046 rfl ?_
  refine zz_iconst 2048 Z.1.1 (v := nI 1) dL_law_2048 rfl ?_
  refine zz_iadd 2049 Z.1.1 (v := nI (i + 1)) dL_law_2049 (nI_add i 1) ?_
  refine lw_sld 2050 Z (j := i + 1) (by omega) e1 dL_law_2050 ?_
  refine lw_callRi 2051 Z (As := [.int x1]) hR gL_law_X7_loadTape rfl ⟨rfl, rfl⟩ yd_X7_loadTape ⟨Nat.le_of_ble_eq_true rfl, Nat.le_of_ble_eq_true rfl⟩ rfl rfl (Nat.le_of_ble_eq_true rfl) hcs dL_law_2051 ?_
  intro r2 w hw2
  obtain ⟨er2, hV⟩ := hp r2 w hw2
  rw [er2]
  have hIN := hq q1 w hC hV
  refine zz_istore 2054 Z.1.1 (lv' := [(7, .int rb), (6, .int (nI kc)), (0, .ref b), (1, .ref (K 0)), (2, .ref (KR 0)), (3, .ref ao), (4, .ref ad), (5, .int (nI i))]) dL_law_2054 (by decide) rfl ?_
  refine zz_aload_n 2056 Z.1.1 4 dL_law_2056 rfl ?_
  refine lw_callRi 2057 Z (As := []) (kt_X7_thrown l D C KR Z.2.2.2.2.2.1.1.2 w.1 w.2.1 w.2.2.1 w.2.2.2 kc hIN.1) gL_law_X7_thrown rfl ⟨rfl, rfl⟩ yd_X7_thrown ⟨Nat.le_of_ble_eq_true rfl, Nat.le_of_ble_eq_true rfl⟩ rfl rfl (Nat.le_of_ble_eq_true rfl) hcs dL_law_2057 ?_
  rintro r3 w3 ⟨er3, ew3⟩
  subst ew3
  rw [er3]
  refine zz_world (P' := (PL D C cD K KR ao ad q1 w q2 od)) (fun _ h => h) ?_
  refine zz_iload 2060 Z.1.1 1 dL_law_2060 rfl ?_
  refine zz_icmp_eq 2062 2067 Z.1.1 (nI_toInt (by omega)) (nI_toInt (by omega)) dL_law_2062 (by decide) (fun h => ?_) (fun h => ?_)
  · skip
    refine zz_iload 2067 Z.1.1 1 dL_law_2067 rfl ?_
    refine zz_if_ne 2069 2084 Z.1.1 (nI_toInt (by omega)) dL_law_2069 (by decide) (fun h0 => ?_) (fun h0 => ?_)
    · skip
      refine zz_goto 2084 3988 Z.1.1 dL_law_2084 (by decide) ?_
      refine zz_lvs [2, 3, 4, 5, 6, 7] rfl ?_
      exact kk q1 w q2 od _ _ hIN.2 (by omega) (by omega)
    · skip
      have hv0 := hv (by omega)
      rw [← eo] at hv0
      refine zz_aload_n 2072 Z.1.1 5 dL_law_2072 rfl ?_
      refine zz_iconst 2073 Z.1.1 (v := nI 0) dL_law_2073 rfl ?_
      refine lw_lld 2074 Z dL_law_2074 ?_
      refine zz_iload 2075 Z.1.1 0 dL_law_2075 rfl ?_
      refine zz_i2l 2077 Z.1.1 dL_law_2077 rfl ?_
      refine zz_lcmp 2078 Z.1.1 dL_law_2078 ?_
      refine zz_ifL_eq 2079 2084 Z.1.1 dL_law_2079 (by decide) (fun h => ?_) (fun h => ?_)
      · skip
        refine zz_goto 2084 3988 Z.1.1 dL_law_2084 (by decide) ?_
        refine zz_lvs [2, 3, 4, 5, 6, 7] rfl ?_
        exact kk q1 w q2 od _ _ hIN.2 (by omega) (by omega)
      · exact absurd (hv0) h
  · exact absurd rfl h

set_option maxHeartbeats 8000000 in
set_option maxRecDepth 100000 in
theorem cs_wordCount {p : Program} {l : Launch} {e : Env} {s : State} {m : MethodId} {args : Array Value} {below : List Frame} {meth : Method} {c : Code} {Q : State → Prop} {D : va_G} {C : Nat → ClassId} {cD : ClassId} {K KR : Nat → Nat} {A : Nat → Prop} {adK adV : Nat → Nat} {ao ad b L : Nat} {xs : Nat → Int32} {u : CSt} {v : MSt} {o : Int64} {od : UInt64} {cells slots i : Nat} (Z : LCx p l s m args c meth A D C cD K KR adK adV ao ad b L xs) (hI : INV u v) (hi : i + 8 ≤ L) (hcs : cells + 1 ≤ room_1.cells ∧ slots + 6 ≤ room_1.slots) (kk : NXT p l e s m args below meth c Q A D C cD K KR ao ad b i cells slots) : ZZ p l e room_1 s m args below meth c cells slots Q A (PL D C cD K KR ao ad u v o od) 10 (lvL b (K 0) (KR 0) ao ad i) [] 2087 := by
  obtain ⟨x1, e1⟩ : ∃ z : Int32, xs (i + 1) = z := ⟨_, rfl⟩
  refine zz_aload_n 2087 Z.1.1 1 dL_law_2087 rfl ?_
  refine zz_aload_n 2088 Z.1.1 0 dL_law_2088 rfl ?_
  refine zz_iload 2089 Z.1.1 5 dL_law_2089 rfl ?_
  refine zz_iconst 2091 Z.1.1 (v := nI 1) dL_law_2091 rfl ?_
  refine zz_iadd 2092 Z.1.1 (v := nI (i + 1)) dL_law_2092 (nI_add i 1) ?_
  refine lw_sld 2093 Z (j := i + 1) (by omega) e1 dL_law_2093 ?_
  refine zz_aload_n 2094 Z.1.1 3 dL_law_2094 rfl ?_
  obtain ⟨kc, rb, o', CU, RV, postR, hW, hR, hp, hq, hk, hv⟩ := pr_wordCount l Z.2.2.1 D C cD K KR adK adV ao Z.2.2.2.2.2.1.1.1 Z.2.2.2.2.2.1.1.2 Z.2.2.2.2.2.1.aoD u v o hI x1
  refine lw_callW 2095 Z (na := 3) (As := [.int x1]) hW gL_law_L_wordCount rfl ⟨rfl, rfl⟩ (by decide +kernel) ⟨Nat.le_of_ble_eq_true rfl, Nat.le_of_ble_eq_true rfl⟩ rfl rfl (Nat.le_of_ble_eq_true rfl) hcs dL_law_2095 ?_
  rintro r ⟨q1, q2⟩ ⟨er, eo, hC⟩
  replace eo : q2 = o' := eo
  replace hC : CU q1 := hC
  rw [er]
  refine zz_world (P' := (PL D C cD K KR ao ad q1 v q2 od)) (fun _ h => h) ?_
  refine zz_istore 2098 Z.1.1 (lv' := [(6, .int (nI kc)), (0, .ref b), (1, .ref (K 0)), (2, .ref (KR 0)), (3, .ref ao), (4, .ref ad), (5, .int (nI i))]) dL_law_2098 (by decide) rfl ?_
  refine zz_aload_n 2100 Z.1.1 3 dL_law_2100 rfl ?_
  refine zz_aload_n 2101 Z.1.1 1 dL_law_2101 rfl ?_
  refine zz_iload 2102 Z.1.1 6 dL_law_2102 rfl ?_
  refine zz_iconst 2104 Z.1.1 (v := nI 1) dL_law_2104 rfl ?_
  refine zz_iadd 2105 Z.1.1 (v := nI (i + 1)) dL_law_2105 (nI_add i 1) ?_
  refine lw_sld 2106 Z (j := i + 1) (by omega) e1 dL_law_2106 ?_
  refine lw_callRi 2107 Z (As := [.int x1]) hR gL_law_X7_wordCount rfl ⟨rfl, rfl⟩ yd_X7_wordCount ⟨Nat.le_of_ble_eq_true rfl, Nat.le_of_ble_eq_true rfl⟩ rfl rfl (Nat.le_of_ble_eq_true rfl) hcs dL_law_2107 ?_
  intro r2 w hw2
  obtain ⟨er2, hV⟩ := hp r2 w hw2
  rw [er2]
  have hIN := hq q1 w hC hV
  refine zz_istore 2110 Z.1.1 (lv' := [(7, .int rb), (6, .int (nI kc)), (0, .ref b), (1, .ref (K 0)), (2, .ref (KR 0)), (3, .ref ao), (4, .ref ad), (5, .int (nI i))]) dL_law_2110 (by decide) rfl ?_
  refine zz_aload_n 2112 Z.1.1 4 dL_law_2112 rfl ?_
  refine lw_callRi 2113 Z (As := []) (kt_X7_thrown l D C KR Z.2.2.2.2.2.1.1.2 w.1 w.2.1 w.2.2.1 w.2.2.2 kc hIN.1) gL_law_X7_thrown rfl ⟨rfl, rfl⟩ yd_X7_thrown ⟨Nat.le_of_ble_eq_true rfl, Nat.le_of_ble_eq_true rfl⟩ rfl rfl (Nat.le_of_ble_eq_true rfl) hcs dL_law_2113 ?_
  rintro r3 w3 ⟨er3, ew3⟩
  subst ew3
  rw [er3]
  refine zz_world (P' := (PL D C cD K KR ao ad q1 w q2 od)) (fun _ h => h) ?_
  refine zz_iload 2116 Z.1.1 1 dL_law_2116 rfl ?_
  refine zz_icmp_eq 2118 2123 Z.1.1 (nI_toInt (by omega)) (nI_toInt (by omega)) dL_law_2118 (by decide) (fun h => ?_) (fun h => ?_)
  · skip
    refine zz_iload 2123 Z.1.1 1 dL_law_2123 rfl ?_
    refine zz_if_ne 2125 2140 Z.1.1 (nI_toInt (by omega)) dL_law_2125 (by decide) (fun h0 => ?_) (fun h0 => ?_)
    · skip
      refine zz_goto 2140 3988 Z.1.1 dL_law_2140 (by decide) ?_
      refine zz_lvs [2, 3, 4, 5, 6, 7] rfl ?_
      exact kk q1 w q2 od _ _ hIN.2 (by omega) (by omega)
    · skip
      have hv0 := hv (by omega)
      rw [← eo] at hv0
      refine zz_aload_n 2128 Z.1.1 5 dL_law_2128 rfl ?_
      refine zz_iconst 2129 Z.1.1 (v := nI 0) dL_law_2129 rfl ?_
      refine lw_lld 2130 Z dL_law_2130 ?_
      refine zz_iload 2131 Z.1.1 0 dL_law_2131 rfl ?_
      refine zz_i2l 2133 Z.1.1 dL_law_2133 rfl ?_
      refine zz_lcmp 2134 Z.1.1 dL_law_2134 ?_
      refine zz_ifL_eq 2135 2140 Z.1.1 dL_law_2135 (by decide) (fun h => ?_) (fun h => ?_)
      · skip
        refine zz_goto 2140 3988 Z.1.1 dL_law_2140 (by decide) ?_
        refine zz_lvs [2, 3, 4, 5, 6, 7] rfl ?_
        exact kk q1 w q2 od _ _ hIN.2 (by omega) (by omega)
      · exact absurd (hv0) h
  · exact absurd rfl h

set_option maxHeartbeats 8000000 in
set_option maxRecDepth 100000 in
theorem cs_wordAt {p : Program} {l : Launch} {e : Env} {s : State} {m : MethodId} {args : Array Value} {below : List Frame} {meth : Method} {c : Code} {Q : State → Prop} {D : va_G} {C : Nat → ClassId} {cD : ClassId} {K KR : Nat → Nat} {A : Nat → Prop} {adK adV : Nat → Nat} {ao ad b L : Nat} {xs : Nat → Int32} {u : CSt} {v : MSt} {o : Int64} {od : UInt64} {cells slots i : Nat} (Z : LCx p l s m args c meth A D C cD K KR adK adV ao ad b L xs) (hI : INV u v) (hi : i + 8 ≤ L) (hcs : cells + 1 ≤ room_1.cells ∧ slots + 6 ≤ room_1.slots) (kk : NXT p l e s m args below meth c Q A D C cD K KR ao ad b i cells slots) : ZZ p l e room_1 s m args below meth c cells slots Q A (PL D C cD K KR ao ad u v o od) 10 (lvL b (K 0) (KR 0) ao ad i) [] 2143 := by
  obtain ⟨x1, e1⟩ : ∃ z : Int32, xs (i + 1) = z := ⟨_, rfl⟩
  obtain ⟨x2, e2⟩ : ∃ z : Int32, xs (i + 2) = z := ⟨_, rfl⟩
  refine zz_aload_n 2143 Z.1.1 1 dL_law_2143 rfl ?_
  refine zz_aload_n 2144 Z.1.1 0 dL_law_2144 rfl ?_
  refine zz_iload 2145 Z.1.1 5 dL_law_2145 rfl ?_
  refine zz_iconst 2147 Z.1.1 (v := nI 1) dL_law_2147 rfl ?_
  refine zz_iadd 2148 Z.1.1 (v := nI (i + 1)) dL_law_2148 (nI_add i 1) ?_
  refine lw_sld 2149 Z (j := i + 1) (by omega) e1 dL_law_2149 ?_
  refine zz_aload_n 2150 Z.1.1 0 dL_law_2150 rfl ?_
  refine zz_iload 2151 Z.1.1 5 dL_law_2151 rfl ?_
  refine zz_iconst 2153 Z.1.1 (v := nI 2) dL_law_2153 rfl ?_
  refine zz_iadd 2154 Z.1.1 (v := nI (i + 2)) dL_law_2154 (nI_add i 2) ?_
  refine lw_sld 2155 Z (j := i + 2) (by omega) e2 dL_law_2155 ?_
  refine zz_aload_n 2156 Z.1.1 3 dL_law_2156 rfl ?_
  obtain ⟨kc, rb, o', CU, RV, postR, hW, hR, hp, hq, hk, hv⟩ := pr_wordAt l Z.2.2.1 D C cD K KR adK adV ao Z.2.2.2.2.2.1.1.1 Z.2.2.2.2.2.1.1.2 Z.2.2.2.2.2.1.aoD u v o hI x1 x2
  refine lw_callW 2157 Z (na := 4) (As := [.int x1, .int x2]) hW gL_law_L_wordAt rfl ⟨rfl, rfl⟩ (by decide +kernel) ⟨Nat.le_of_ble_eq_true rfl, Nat.le_of_ble_eq_true rfl⟩ rfl rfl (Nat.le_of_ble_eq_true rfl) hcs dL_law_2157 ?_
  rintro r ⟨q1, q2⟩ ⟨er, eo, hC⟩
  replace eo : q2 = o' := eo
  replace hC : CU q1 := hC
  rw [er]
  refine zz_world (P' := (PL D C cD K KR ao ad q1 v q2 od)) (fun _ h => h) ?_
  refine zz_istore 2160 Z.1.1 (lv' := [(6, .int (nI kc)), (0, .ref b), (1, .ref (K 0)), (2, .ref (KR 0)), (3, .ref ao), (4, .ref ad), (5, .int (nI i))]) dL_law_2160 (by decide) rfl ?_
  refine zz_aload_n 2162 Z.1.1 3 dL_law_2162 rfl ?_
  refine zz_aload_n 2163 Z.1.1 1 dL_law_2163 rfl ?_
  refine zz_iload 2164 Z.1.1 6 dL_law_2164 rfl ?_
  refine zz_iconst 2166 Z.1.1 (v := nI 1) dL_law_2166 rfl ?_
  refine zz_iadd 2167 Z.1.1 (v := nI (i + 1)) dL_law_2167 (nI_add i 1) ?_
  refine lw_sld 2168 Z (j := i + 1) (by omega) e1 dL_law_2168 ?_
  refine zz_aload_n 2169 Z.1.1 1 dL_law_2169 rfl ?_
  refine zz_iload 2170 Z.1.1 6 dL_law_2170 rfl ?_
  refine zz_iconst 2172 Z.1.1 (v := nI 2) dL_law_2172 rfl ?_
  refine zz_iadd 2173 Z.1.1 (v := nI (i + 2)) dL_law_2173 (nI_add i 2) ?_
  refine lw_sld 2174 Z (j := i + 2) (by omega) e2 dL_law_2174 ?_
  refine lw_callRl 2175 Z (As := [.int x1, .int x2]) hR gL_law_X7_wordAt rfl ⟨rfl, rfl⟩ yd_X7_wordAt ⟨Nat.le_of_ble_eq_true rfl, Nat.le_of_ble_eq_true rfl⟩ rfl rfl (Nat.le_of_ble_eq_true rfl) hcs dL_law_2175 ?_
  intro r2 w hw2
  obtain ⟨er2, hV⟩ := hp r2 w hw2
  rw [er2]
  have hIN := hq q1 w hC hV
  refine zz_lstore 2178 Z.1.1 (lv' := [(7, .long rb), (6, .int (nI kc)), (0, .ref b), (1, .ref (K 0)), (2, .ref (KR 0)), (3, .ref ao), (4, .ref ad), (5, .int (nI i))]) dL_law_2178 (by decide) rfl ?_
  refine zz_aload_n 2180 Z.1.1 4 dL_law_2180 rfl ?_
  refine lw_callRi 2181 Z (As := []) (kt_X7_thrown l D C KR Z.2.2.2.2.2.1.1.2 w.1 w.2.1 w.2.2.1 w.2.2.2 kc hIN.1) gL_law_X7_thrown rfl ⟨rfl, rfl⟩ yd_X7_thrown ⟨Nat.le_of_ble_eq_true rfl, Nat.le_of_ble_eq_true rfl⟩ rfl rfl (Nat.le_of_ble_eq_true rfl) hcs dL_law_2181 ?_
  rintro r3 w3 ⟨er3, ew3⟩
  subst ew3
  rw [er3]
  refine zz_world (P' := (PL D C cD K KR ao ad q1 w q2 od)) (fun _ h => h) ?_
  refine zz_iload 2184 Z.1.1 1 dL_law_2184 rfl ?_
  refine zz_icmp_eq 2186 2191 Z.1.1 (nI_toInt (by omega)) (nI_toInt (by omega)) dL_law_2186 (by decide) (fun h => ?_) (fun h => ?_)
  · skip
    refine zz_iload 2191 Z.1.1 1 dL_law_2191 rfl ?_
    refine zz_if_ne 2193 2207 Z.1.1 (nI_toInt (by omega)) dL_law_2193 (by decide) (fun h0 => ?_) (fun h0 => ?_)
    · skip
      refine zz_goto 2207 3988 Z.1.1 dL_law_2207 (by decide) ?_
      refine zz_lvs [2, 3, 4, 5, 6, 7] rfl ?_
      exact kk q1 w q2 od _ _ hIN.2 (by omega) (by omega)
    · skip
      have hv0 := hv (by omega)
      rw [← eo] at hv0
      refine zz_aload_n 2196 Z.1.1 5 dL_law_2196 rfl ?_
      refine zz_iconst 2197 Z.1.1 (v := nI 0) dL_law_2197 rfl ?_
      refine lw_lld 2198 Z dL_law_2198 ?_
      refine zz_lload 2199 Z.1.1 0 dL_law_2199 rfl ?_
      refine zz_lcmp 2201 Z.1.1 dL_law_2201 ?_
      refine zz_ifL_eq 2202 2207 Z.1.1 dL_law_2202 (by decide) (fun h => ?_) (fun h => ?_)
      · skip
        refine zz_goto 2207 3988 Z.1.1 dL_law_2207 (by decide) ?_
        refine zz_lvs [2, 3, 4, 5, 6, 7] rfl ?_
        exact kk q1 w q2 od _ _ hIN.2 (by omega) (by omega)
      · exact absurd (hv0) h
  · exact absurd rfl h

set_option maxHeartbeats 8000000 in
set_option maxRecDepth 100000 in
theorem cs_byteCount {p : Program} {l : Launch} {e : Env} {s : State} {m : MethodId} {args : Array Value} {below : List Frame} {meth : Method} {c : Code} {Q : State → Prop} {D : va_G} {C : Nat → ClassId} {cD : ClassId} {K KR : Nat → Nat} {A : Nat → Prop} {adK adV : Nat → Nat} {ao ad b L : Nat} {xs : Nat → Int32} {u : CSt} {v : MSt} {o : Int64} {od : UInt64} {cells slots i : Nat} (Z : LCx p l s m args c meth A D C cD K KR adK adV ao ad b L xs) (hI : INV u v) (hi : i + 8 ≤ L) (hcs : cells + 1 ≤ room_1.cells ∧ slots + 6 ≤ room_1.slots) (kk : NXT p l e s m args below meth c Q A D C cD K KR ao ad b i cells slots) : ZZ p l e room_1 s m args below meth c cells slots Q A (PL D C cD K KR ao ad u v o od) 10 (lvL b (K 0) (KR 0) ao ad i) [] 2210 := by
  obtain ⟨x1, e1⟩ : ∃ z : Int32, xs (i + 1) = z := ⟨_, rfl⟩
  refine zz_aload_n 2210 Z.1.1 1 dL_law_2210 rfl ?_
  refine zz_aload_n 2211 Z.1.1 0 dL_law_2211 rfl ?_
  refine zz_iload 2212 Z.1.1 5 dL_law_2212 rfl ?_
  refine zz_iconst 2214 Z.1.1 (v := nI 1) dL_law_2214 rfl ?_
  refine zz_iadd 2215 Z.1.1 (v := nI (i + 1)) dL_law_2215 (nI_add i 1) ?_
  refine lw_sld 2216 Z (j := i + 1) (by omega) e1 dL_law_2216 ?_
  refine zz_aload_n 2217 Z.1.1 3 dL_law_2217 rfl ?_
  obtain ⟨kc, rb, o', CU, RV, postR, hW, hR, hp, hq, hk, hv⟩ := pr_byteCount l Z.2.2.1 D C cD K KR adK adV ao Z.2.2.2.2.2.1.1.1 Z.2.2.2.2.2.1.1.2 Z.2.2.2.2.2.1.aoD u v o hI x1
  refine lw_callW 2218 Z (na := 3) (As := [.int x1]) hW gL_law_L_byteCount rfl ⟨rfl, rfl⟩ (by decide +kernel) ⟨Nat.le_of_ble_eq_true rfl, Nat.le_of_ble_eq_true rfl⟩ rfl rfl (Nat.le_of_ble_eq_true rfl) hcs dL_law_2218 ?_
  rintro r ⟨q1, q2⟩ ⟨er, eo, hC⟩
  replace eo : q2 = o' := eo
  replace hC : CU q1 := hC
  rw [er]
  refine zz_world (P' := (PL D C cD K KR ao ad q1 v q2 od)) (fun _ h => h) ?_
  refine zz_istore 2221 Z.1.1 (lv' := [(6, .int (nI kc)), (0, .ref b), (1, .ref (K 0)), (2, .ref (KR 0)), (3, .ref ao), (4, .ref ad), (5, .int (nI i))]) dL_law_2221 (by decide) rfl ?_
  refine zz_aload_n 2223 Z.1.1 3 dL_law_2223 rfl ?_
  refine zz_aload_n 2224 Z.1.1 1 dL_law_2224 rfl ?_
  refine zz_iload 2225 Z.1.1 6 dL_law_2225 rfl ?_
  refine zz_iconst 2227 Z.1.1 (v := nI 1) dL_law_2227 rfl ?_
  refine zz_iadd 2228 Z.1.1 (v := nI (i + 1)) dL_law_2228 (nI_add i 1) ?_
  refine lw_sld 2229 Z (j := i + 1) (by omega) e1 dL_law_2229 ?_
  refine lw_callRi 2230 Z (As := [.int x1]) hR gL_law_X7_byteCount rfl ⟨rfl, rfl⟩ yd_X7_byteCount ⟨Nat.le_of_ble_eq_true rfl, Nat.le_of_ble_eq_true rfl⟩ rfl rfl (Nat.le_of_ble_eq_true rfl) hcs dL_law_2230 ?_
  intro r2 w hw2
  obtain ⟨er2, hV⟩ := hp r2 w hw2
  rw [er2]
  have hIN := hq q1 w hC hV
  refine zz_istore 2233 Z.1.1 (lv' := [(7, .int rb), (6, .int (nI kc)), (0, .ref b), (1, .ref (K 0)), (2, .ref (KR 0)), (3, .ref ao), (4, .ref ad), (5, .int (nI i))]) dL_law_2233 (by decide) rfl ?_
  refine zz_aload_n 2235 Z.1.1 4 dL_law_2235 rfl ?_
  refine lw_callRi 2236 Z (As := []) (kt_X7_thrown l D C KR Z.2.2.2.2.2.1.1.2 w.1 w.2.1 w.2.2.1 w.2.2.2 kc hIN.1) gL_law_X7_thrown rfl ⟨rfl, rfl⟩ yd_X7_thrown ⟨Nat.le_of_ble_eq_true rfl, Nat.le_of_ble_eq_true rfl⟩ rfl rfl (Nat.le_of_ble_eq_true rfl) hcs dL_law_2236 ?_
  rintro r3 w3 ⟨er3, ew3⟩
  subst ew3
  rw [er3]
  refine zz_world (P' := (PL D C cD K KR ao ad q1 w q2 od)) (fun _ h => h) ?_
  refine zz_iload 2239 Z.1.1 1 dL_law_2239 rfl ?_
  refine zz_icmp_eq 2241 2246 Z.1.1 (nI_toInt (by omega)) (nI_toInt (by omega)) dL_law_2241 (by decide) (fun h => ?_) (fun h => ?_)
  · skip
    refine zz_iload 2246 Z.1.1 1 dL_law_2246 rfl ?_
    refine zz_if_ne 2248 2263 Z.1.1 (nI_toInt (by omega)) dL_law_2248 (by decide) (fun h0 => ?_) (fun h0 => ?_)
    · skip
      refine zz_goto 2263 3988 Z.1.1 dL_law_2263 (by decide) ?_
      refine zz_lvs [2, 3, 4, 5, 6, 7] rfl ?_
      exact kk q1 w q2 od _ _ hIN.2 (by omega) (by omega)
    · skip
      have hv0 := hv (by omega)
      rw [← eo] at hv0
      refine zz_aload_n 2251 Z.1.1 5 dL_law_2251 rfl ?_
      refine zz_iconst 2252 Z.1.1 (v := nI 0) dL_law_2252 rfl ?_
      refine lw_lld 2253 Z dL_law_2253 ?_
      refine zz_iload 2254 Z.1.1 0 dL_law_2254 rfl ?_
      refine zz_i2l 2256 Z.1.1 dL_law_2256 rfl ?_
      refine zz_lcmp 2257 Z.1.1 dL_law_2257 ?_
      refine zz_ifL_eq 2258 2263 Z.1.1 dL_law_2258 (by decide) (fun h => ?_) (fun h => ?_)
      · skip
        refine zz_goto 2263 3988 Z.1.1 dL_law_2263 (by decide) ?_
        refine zz_lvs [2, 3, 4, 5, 6, 7] rfl ?_
        exact kk q1 w q2 od _ _ hIN.2 (by omega) (by omega)
      · exact absurd (hv0) h
  · exact absurd rfl h
