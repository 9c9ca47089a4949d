theorem RD_hX {hs hs1 b : Nat → Bool} (h : RD hs b) (h1 : ∀ s i, s < 3 → i < 1024 → hM hs1 s i = hM hs s i) : RD hs1 b := fun i hi => by
  have e := h1 (i / 1024) (i % 1024) (by omega) (Nat.mod_lt _ (by decide))
  have e2 : 1024 * (i / 1024) + i % 1024 = i := Nat.div_add_mod i 1024
  unfold hM at e
  rw [e2] at e
  rw [h i hi, e]
abbrev rm_L_isScript : Room := { frames := 12, cells := 13, slots := 364, locals := 267 }
theorem yd_L_isScript : yL_isScript.cls = RL ∧ yL_isScript.cls ≠ "java/lang/invoke/MethodHandle" ∧ yL_isScript.cls ≠ "java/lang/invoke/VarHandle" ∧ (parseMethodDescriptor yL_isScript.desc).map (fun d => d.parameters.length) = some 0 := by decide +kernel
set_option maxHeartbeats 4000000 in
set_option maxRecDepth 100000 in
theorem kt_L_isScript (l : Launch) (D : va_G) (C : Nat → ClassId) (K : Nat → Nat) (kL kH : Nat) (ad : Nat → Nat) (hAp : LAp K kL kH) (x : Int32) (F : Nat → Int32) (hs : Nat → Bool) (G T : Nat → Nat → Int32) (b : Nat → Bool)  (hrd : RD hs b) (hF0 : F 4 = nI 0) : LMi l yL_isScript wsL_isScript rm_L_isScript D C K kL kH ad 13 364 [] x F hs G T b (fun (r : Int32) (q : LSt) => ∃ (x1 : Int32) (F1 : Nat → Int32) (hs1 : Nat → Bool) (G1 : Nat → Nat → Int32) (T1 : Nat → Nat → Int32), r = (bI true) ∧ q = (x1, (F1, hs1, G1, T1), b) ∧ RD hs1 b) := by
  refine LMi_of (lv := [(0, .ref kL)]) (cc := cL_isScript) (maxL := 10) (ret := (some .boolean)) rfl (by decide +kernel) (Nat.le_of_ble_eq_true rfl) rfl ?_
  intro p e s m args below meth c X hLA hml hr hlk
  have mL0 : ∀ w ∈ wsL0, w ∈ wsL_isScript := by decide +kernel
  have mF : Cond.fieldLink yL_isScript.cls 10 RL (TL 1).2.1 (TL 1).2.2.1 ∈ wsL_isScript := by decide +kernel
  generalize hQ : MQ below _ args s 13 364 _ = Q
  have hA : ∀ q, s.heap.size ≤ q → zz_A (LZ K kL kH) s.heap.size q := fun q h => Or.inr h
  have hCO : COx (zz_A (LZ K kL kH) s.heap.size) s := hLA.2.1.2.2
  refine zz_sipush 0 X.1 (v := nI 1023) dL_isScript_0 rfl ?_
  refine zz_aload_n 3 X.1 0 dL_isScript_3 rfl ?_
  refine ll_callLi 4 X hLA hml (As := []) (kt_L_number l D C K kL kH ad hAp x F hs G T b  ) gL_isScript_L_number rfl ⟨rfl, rfl⟩ yd_L_number ⟨Nat.le_of_ble_eq_true rfl, Nat.le_of_ble_eq_true rfl⟩ rfl rfl (Nat.le_of_ble_eq_true rfl) ⟨Nat.le_of_ble_eq_true rfl, Nat.le_of_ble_eq_true rfl⟩ dL_isScript_4 ?_
  rintro r1 ⟨x1, ⟨F1, hs1, G1, T1⟩, b1⟩ hu1
  obtain ⟨k1_1, x1_1, rfl, hv1, hf1_0⟩ := hu1
  cases hv1
  refine zz_world (P' := (LPo D C K kL kH (x1, (F, hs, G, T), b))) (fun _ h => h) ?_
  refine zz_mmin 7 X.1 hml X.2.2.1 ((X.2.1 _ (by decide +kernel))) ((X.2.1 _ (by decide +kernel))) ((X.2.1 _ (by decide +kernel))) ((X.2.1 _ (by decide +kernel))) (Nat.le_of_ble_eq_true rfl) (Nat.le_of_ble_eq_true rfl) (Nat.le_of_ble_eq_true rfl) (Nat.le_of_ble_eq_true rfl) (v := (nI (min 1023 k1_1))) dL_isScript_7 (zi_of ((zi_min (nI_toInt (by omega)) (nI_toInt (by omega))).trans (by omega))) ?_
  obtain ⟨u9, hu9⟩ : ∃ z : Nat, z = min 1023 k1_1 := ⟨_, rfl⟩
  refine zz_topi (nI u9) (congrArg nI hu9.symm) ?_
  refine zz_istore_n 10 X.1 (lv' := [(1, .int (nI u9)), (0, .ref kL)]) dL_isScript_10 (by decide) rfl ?_
  refine zz_sipush 11 X.1 (v := nI 1023) dL_isScript_11 rfl ?_
  refine zz_aload_n 14 X.1 1 dL_isScript_14 rfl ?_
  refine ll_callLi 15 X hLA hml (As := []) (kt_L_number l D C K kL kH ad hAp x1 F hs G T b  ) gL_isScript_L_number rfl ⟨rfl, rfl⟩ yd_L_number ⟨Nat.le_of_ble_eq_true rfl, Nat.le_of_ble_eq_true rfl⟩ rfl rfl (Nat.le_of_ble_eq_true rfl) ⟨Nat.le_of_ble_eq_true rfl, Nat.le_of_ble_eq_true rfl⟩ dL_isScript_15 ?_
  rintro r2 ⟨x2, ⟨F2, hs2, G2, T2⟩, b2⟩ hu2
  obtain ⟨k1_2, x1_2, rfl, hv2, hf2_0⟩ := hu2
  cases hv2
  refine zz_world (P' := (LPo D C K kL kH (x2, (F, hs, G, T), b))) (fun _ h => h) ?_
  refine zz_mmin 18 X.1 hml X.2.2.1 ((X.2.1 _ (by decide +kernel))) ((X.2.1 _ (by decide +kernel))) ((X.2.1 _ (by decide +kernel))) ((X.2.1 _ (by decide +kernel))) (Nat.le_of_ble_eq_true rfl) (Nat.le_of_ble_eq_true rfl) (Nat.le_of_ble_eq_true rfl) (Nat.le_of_ble_eq_true rfl) (v := (nI (min 1023 k1_2))) dL_isScript_18 (zi_of ((zi_min (nI_toInt (by omega)) (nI_toInt (by omega))).trans (by omega))) ?_
  obtain ⟨q9, hq9⟩ : ∃ z : Nat, z = min 1023 k1_2 := ⟨_, rfl⟩
  refine zz_topi (nI q9) (congrArg nI hq9.symm) ?_
  refine zz_istore_n 21 X.1 (lv' := [(2, .int (nI q9)), (1, .int (nI u9)), (0, .ref kL)]) dL_isScript_21 (by decide) rfl ?_
  refine zz_iload_n 22 X.1 1 dL_isScript_22 rfl ?_
  refine zz_iload_n 23 X.1 0 dL_isScript_23 rfl ?_
  refine zz_mmin 24 X.1 hml X.2.2.1 ((X.2.1 _ (by decide +kernel))) ((X.2.1 _ (by decide +kernel))) ((X.2.1 _ (by decide +kernel))) ((X.2.1 _ (by decide +kernel))) (Nat.le_of_ble_eq_true rfl) (Nat.le_of_ble_eq_true rfl) (Nat.le_of_ble_eq_true rfl) (Nat.le_of_ble_eq_true rfl) (v := (nI (min u9 q9))) dL_isScript_24 (zi_of ((zi_min (nI_toInt (by omega)) (nI_toInt (by omega))).trans (by omega))) ?_
  obtain ⟨f9, hf9⟩ : ∃ z : Nat, z = min u9 q9 := ⟨_, rfl⟩
  refine zz_topi (nI f9) (congrArg nI hf9.symm) ?_
  refine zz_istore_n 27 X.1 (lv' := [(3, .int (nI f9)), (2, .int (nI q9)), (1, .int (nI u9)), (0, .ref kL)]) dL_isScript_27 (by decide) rfl ?_
  refine zz_iload_n 28 X.1 2 dL_isScript_28 rfl ?_
  refine zz_iload_n 29 X.1 1 dL_isScript_29 rfl ?_
  refine zz_mmax 30 X.1 hml X.2.2.1 ((X.2.1 _ (by decide +kernel))) ((X.2.1 _ (by decide +kernel))) ((X.2.1 _ (by decide +kernel))) ((X.2.1 _ (by decide +kernel))) (Nat.le_of_ble_eq_true rfl) (Nat.le_of_ble_eq_true rfl) (Nat.le_of_ble_eq_true rfl) (Nat.le_of_ble_eq_true rfl) (v := (nI (max u9 q9))) dL_isScript_30 (zi_of ((zi_max (nI_toInt (by omega)) (nI_toInt (by omega))).trans (by omega))) ?_
  obtain ⟨o9, ho9⟩ : ∃ z : Nat, z = max u9 q9 := ⟨_, rfl⟩
  refine zz_topi (nI o9) (congrArg nI ho9.symm) ?_
  have gd1 := (dgs_ok f9 (by omega)).2
  have gd2 := (dgs_ok o9 (by omega)).2
  have gd3 := (dgs_ok q9 (by omega)).2
  refine zz_istore 33 X.1 (lv' := [(4, .int (nI o9)), (3, .int (nI f9)), (2, .int (nI q9)), (1, .int (nI u9)), (0, .ref kL)]) dL_isScript_33 (by decide) rfl ?_
  refine zs_ldc 35 X.1 X.2.2.1 hLA.2.2.1.2.1 dL_isScript_35 ?_
  refine zz_aload_n 37 X.1 4 dL_isScript_37 rfl ?_
  refine zz_iconst 38 X.1 (v := nI 4) dL_isScript_38 rfl ?_
  refine ll_callLi 39 X hLA hml (As := [.int (nI 4)]) (kt_L_next l D C K kL kH ad hAp x2 F hs G T b 4 (by first | rfl | assumption | omega)) gL_isScript_L_next rfl ⟨rfl, rfl⟩ yd_L_next ⟨Nat.le_of_ble_eq_true rfl, Nat.le_of_ble_eq_true rfl⟩ rfl rfl (Nat.le_of_ble_eq_true rfl) ⟨Nat.le_of_ble_eq_true rfl, Nat.le_of_ble_eq_true rfl⟩ dL_isScript_39 ?_
  rintro r3 ⟨x3, ⟨F3, hs3, G3, T3⟩, b3⟩ hu3
  obtain ⟨k1_3, x1_3, rfl, hv3, hf3_0⟩ := hu3
  cases hv3
  refine zz_world (P' := (LPo D C K kL kH (x3, (F, hs, G, T), b))) (fun _ h => h) ?_
  refine zz_callVNi 42 SSx_ok (show SSx (ad 20) (ad 30) 4 (fun j => (lsb.getD 0 []).getD j 0) _ _ from ⟨STx_of hLA.2.2.1.1 hCO (i := 0) (by decide), hLA.2.2.2.2⟩) ⟨X.1.1, X.1.2, hml, X.2.2.1, X.2.1⟩ (fun q h => Or.inr h) LP_keep (As := [.int (nI k1_3)]) (kt_J0_charAt_5068e l (ad 20) (ad 30) 4 (fun j => (lsb.getD 0 []).getD j 0) k1_3 (by omega) (fun j hj => ⟨tz 0 j, tz_lt, (tz_eq 0 (by decide) j hj).1⟩)) (STx_of hLA.2.2.1.1 hCO (i := 0) (by decide)).1.1 gL_isScript_J0_charAt_5068e rfl ⟨rfl, rfl⟩ yd_J0_charAt_5068e ⟨Nat.le_of_ble_eq_true rfl, Nat.le_of_ble_eq_true rfl⟩ rfl rfl (Nat.le_of_ble_eq_true rfl) ⟨Nat.le_of_ble_eq_true rfl, Nat.le_of_ble_eq_true rfl⟩ dL_isScript_42 ?_
  intro r42 hu42
  obtain rfl := hu42
  obtain ⟨sg, hsg, hsgv⟩ := sg_at k1_3 (by omega)
  refine zz_topi (nI sg) hsgv ?_
  refine zz_istore 45 X.1 (lv' := [(5, .int (nI sg)), (4, .int (nI o9)), (3, .int (nI f9)), (2, .int (nI q9)), (1, .int (nI u9)), (0, .ref kL)]) dL_isScript_45 (by decide) rfl ?_
  refine zz_toL hAp ?_
  refine zl_new 47 X hA (Cn := RJ4) (T := TJ4) (N := 4) (ci := 9) (index := 210) (by decide +kernel) tyJ4 tyJ4_ok (by decide +kernel) (by decide +kernel) (by decide +kernel) rfl (fs := [.null, .int 0, .int 0, .int 0]) (by decide) ⟨Nat.le_of_ble_eq_true rfl, Nat.le_of_ble_eq_true rfl⟩ dL_isScript_47 (fun qb => ?_)
  refine zz_world (P' := (LPw (zz_A (LZ K kL kH) s.heap.size) D (LW C K kL kH (x3, (F, hs, G, T), b) ++ [(qb, .inr (9, [.null, .int 0, .int 0, .int 0]))]))) (fun _ h => by rw [List.append_nil] at h; exact h) ?_
  refine zz_dup 50 X.1 dL_isScript_50 rfl ?_
  refine sl_callIv 51 X hml hA COx_ok hCO (R0 := LW C K kL kH (x3, (F, hs, G, T), b)) (As := []) (kt_J4_init_da8c8 l D C qb) (cwI 0 X.2.1 gL_isScript_J4_init_da8c8 rfl rfl rfl (X.2.1 _ (by decide +kernel)) (X.2.1 _ (by decide +kernel)) (X.2.1 _ (by decide +kernel)) rfl (by decide +kernel) ⟨Nat.le_of_ble_eq_true rfl, Nat.le_of_ble_eq_true rfl⟩) rfl rfl (Nat.le_of_ble_eq_true rfl) ⟨Nat.le_of_ble_eq_true rfl, Nat.le_of_ble_eq_true rfl⟩ dL_isScript_51 ?_
  rintro v0 _
  refine zz_world (P' := (LPw (zz_A (LZ K kL kH) s.heap.size) D (LW C K kL kH (x3, (F, hs, G, T), b) ++ [(qb, .inr (9, [.ref v0, .int 0, .int 0, .int (nI 0)])), (v0, .inl (C 6, 16, .inl (tx (fun _ => 0) 0)))]))) (fun _ h => h) ?_
  have ht0 : ∀ j, (fun (_ : Nat) => 0) j < 128 := fun _ => (by decide : 0 < 128)
  refine zs_ldc 54 X.1 X.2.2.1 hLA.2.2.1.2.2.1 dL_isScript_54 ?_
  refine sl_callVr 56 X hml hA STx_ok (show STx (ad 21) (ad 31) 5 (fun j => (lsb.getD 1 []).getD j 0) _ _ from STx_of hLA.2.2.1.1 hCO (i := 1) (by decide)) (R0 := LW C K kL kH (x3, (F, hs, G, T), b)) (As := [.ref (ad 21)]) (Cn := RJ4) (kt_J4_append_15ec4 l D C qb v0 0 16 (fun _ => 0) (ad 21) (ad 31) 5 (fun j => (lsb.getD 1 []).getD j 0) (tz 1) (Or.inl rfl) (by omega) (by omega) ht0 (fun _ => tz_lt) (fun j hj => (tz_eq 1 (by decide) j hj).1)) gL_isScript_J4_append_15ec4 rfl ⟨rfl, rfl⟩ yd_J4_append_15ec4 ⟨Nat.le_of_ble_eq_true rfl, Nat.le_of_ble_eq_true rfl⟩ (fun H locs hP hS => va_recv X.2.2.2 hP.1 (ci := 9) (q0 := 131 + 0) rfl ((LW_at (j := 0)).trans rfl)) rfl rfl (Nat.le_of_ble_eq_true rfl) ⟨Nat.le_of_ble_eq_true rfl, Nat.le_of_ble_eq_true rfl⟩ dL_isScript_56 ?_
  rintro ⟨v1, m1⟩ ⟨hm1, hn1⟩
  refine zz_world (P' := (LPw (zz_A (LZ K kL kH) s.heap.size) D (LW C K kL kH (x3, (F, hs, G, T), b) ++ [(qb, .inr (9, [.ref v1, .int 0, .int 0, .int (nI (0 + 5))])), (v1, .inl (C 6, m1, .inl (tx (cat (fun _ => 0) 0 (tz 1)) (0 + 5))))]))) (fun _ h => h) ?_
  have ht1 : ∀ j, (cat (fun _ => 0) 0 (tz 1)) j < 128 := cat_lt ht0 (fun _ => tz_lt)
  refine zz_iload 59 X.1 0 dL_isScript_59 rfl ?_
  refine sl_callVr 61 X hml hA COx_ok hCO (R0 := LW C K kL kH (x3, (F, hs, G, T), b)) (As := [.int (nI sg)]) (Cn := RJ4) (kt_J4_append_cf468 l D C qb v1 (0 + 5) m1 (cat (fun _ => 0) 0 (tz 1)) sg hm1 (by omega) (by omega) ht1 (by omega)) gL_isScript_J4_append_cf468 rfl ⟨rfl, rfl⟩ yd_J4_append_cf468 ⟨Nat.le_of_ble_eq_true rfl, Nat.le_of_ble_eq_true rfl⟩ (fun H locs hP hS => va_recv X.2.2.2 hP.1 (ci := 9) (q0 := 131 + 0) rfl ((LW_at (j := 0)).trans rfl)) rfl rfl (Nat.le_of_ble_eq_true rfl) ⟨Nat.le_of_ble_eq_true rfl, Nat.le_of_ble_eq_true rfl⟩ dL_isScript_61 ?_
  rintro ⟨v2, m2⟩ ⟨hm2, hn2⟩
  refine zz_world (P' := (LPw (zz_A (LZ K kL kH) s.heap.size) D (LW C K kL kH (x3, (F, hs, G, T), b) ++ [(qb, .inr (9, [.ref v2, .int 0, .int 0, .int (nI (0 + 5 + 1))])), (v2, .inl (C 6, m2, .inl (tx (cat (cat (fun _ => 0) 0 (tz 1)) (0 + 5) (fun _ => sg)) (0 + 5 + 1))))]))) (fun _ h => h) ?_
  have ht2 : ∀ j, (cat (cat (fun _ => 0) 0 (tz 1)) (0 + 5) (fun _ => sg)) j < 128 := cat_lt ht1 (fun _ => by omega)
  refine zs_ldc 64 X.1 X.2.2.1 hLA.2.2.1.2.2.2.1 dL_isScript_64 ?_
  refine sl_callVr 66 X hml hA STx_ok (show STx (ad 22) (ad 32) 5 (fun j => (lsb.getD 2 []).getD j 0) _ _ from STx_of hLA.2.2.1.1 hCO (i := 2) (by decide)) (R0 := LW C K kL kH (x3, (F, hs, G, T), b)) (As := [.ref (ad 22)]) (Cn := RJ4) (kt_J4_append_15ec4 l D C qb v2 (0 + 5 + 1) m2 (cat (cat (fun _ => 0) 0 (tz 1)) (0 + 5) (fun _ => sg)) (ad 22) (ad 32) 5 (fun j => (lsb.getD 2 []).getD j 0) (tz 2) hm2 (by omega) (by omega) ht2 (fun _ => tz_lt) (fun j hj => (tz_eq 2 (by decide) j hj).1)) gL_isScript_J4_append_15ec4 rfl ⟨rfl, rfl⟩ yd_J4_append_15ec4 ⟨Nat.le_of_ble_eq_true rfl, Nat.le_of_ble_eq_true rfl⟩ (fun H locs hP hS => va_recv X.2.2.2 hP.1 (ci := 9) (q0 := 131 + 0) rfl ((LW_at (j := 0)).trans rfl)) rfl rfl (Nat.le_of_ble_eq_true rfl) ⟨Nat.le_of_ble_eq_true rfl, Nat.le_of_ble_eq_true rfl⟩ dL_isScript_66 ?_
  rintro ⟨v3, m3⟩ ⟨hm3, hn3⟩
  refine zz_world (P' := (LPw (zz_A (LZ K kL kH) s.heap.size) D (LW C K kL kH (x3, (F, hs, G, T), b) ++ [(qb, .inr (9, [.ref v3, .int 0, .int 0, .int (nI (0 + 5 + 1 + 5))])), (v3, .inl (C 6, m3, .inl (tx (cat (cat (cat (fun _ => 0) 0 (tz 1)) (0 + 5) (fun _ => sg)) (0 + 5 + 1) (tz 2)) (0 + 5 + 1 + 5))))]))) (fun _ h => h) ?_
  have ht3 : ∀ j, (cat (cat (cat (fun _ => 0) 0 (tz 1)) (0 + 5) (fun _ => sg)) (0 + 5 + 1) (tz 2)) j < 128 := cat_lt ht2 (fun _ => tz_lt)
  refine zz_iload_n 69 X.1 2 dL_isScript_69 rfl ?_
  refine sl_callVr 70 X hml hA DCx_ok ⟨hLA.2.2.2.1, hCO⟩ (R0 := LW C K kL kH (x3, (F, hs, G, T), b)) (As := [.int (nI f9)]) (Cn := RJ4) (kt_J4_append_bf812 l D C qb v3 (0 + 5 + 1 + 5) m3 (cat (cat (cat (fun _ => 0) 0 (tz 1)) (0 + 5) (fun _ => sg)) (0 + 5 + 1) (tz 2)) (ad 40) (ad 41) f9 hm3 (by omega) (by omega) ht3 (by omega)) gL_isScript_J4_append_bf812 rfl ⟨rfl, rfl⟩ yd_J4_append_bf812 ⟨Nat.le_of_ble_eq_true rfl, Nat.le_of_ble_eq_true rfl⟩ (fun H locs hP hS => va_recv X.2.2.2 hP.1 (ci := 9) (q0 := 131 + 0) rfl ((LW_at (j := 0)).trans rfl)) rfl rfl (Nat.le_of_ble_eq_true rfl) ⟨Nat.le_of_ble_eq_true rfl, Nat.le_of_ble_eq_true rfl⟩ dL_isScript_70 ?_
  rintro ⟨v4, m4⟩ ⟨hm4, hn4⟩
  refine zz_world (P' := (LPw (zz_A (LZ K kL kH) s.heap.size) D (LW C K kL kH (x3, (F, hs, G, T), b) ++ [(qb, .inr (9, [.ref v4, .int 0, .int 0, .int (nI (0 + 5 + 1 + 5 + dgs f9))])), (v4, .inl (C 6, m4, .inl (tx (cat (cat (cat (cat (fun _ => 0) 0 (tz 1)) (0 + 5) (fun _ => sg)) (0 + 5 + 1) (tz 2)) (0 + 5 + 1 + 5) (dgt f9 (dgs f9))) (0 + 5 + 1 + 5 + dgs f9))))]))) (fun _ h => h) ?_
  have ht4 : ∀ j, (cat (cat (cat (cat (fun _ => 0) 0 (tz 1)) (0 + 5) (fun _ => sg)) (0 + 5 + 1) (tz 2)) (0 + 5 + 1 + 5) (dgt f9 (dgs f9))) j < 128 := cat_lt ht3 (fun _ => dgt_lt)
  refine zs_ldc 73 X.1 X.2.2.1 hLA.2.2.1.2.2.2.2.1 dL_isScript_73 ?_
  refine sl_callVr 75 X hml hA STx_ok (show STx (ad 23) (ad 33) 2 (fun j => (lsb.getD 3 []).getD j 0) _ _ from STx_of hLA.2.2.1.1 hCO (i := 3) (by decide)) (R0 := LW C K kL kH (x3, (F, hs, G, T), b)) (As := [.ref (ad 23)]) (Cn := RJ4) (kt_J4_append_15ec4 l D C qb v4 (0 + 5 + 1 + 5 + dgs f9) m4 (cat (cat (cat (cat (fun _ => 0) 0 (tz 1)) (0 + 5) (fun _ => sg)) (0 + 5 + 1) (tz 2)) (0 + 5 + 1 + 5) (dgt f9 (dgs f9))) (ad 23) (ad 33) 2 (fun j => (lsb.getD 3 []).getD j 0) (tz 3) hm4 (by omega) (by omega) ht4 (fun _ => tz_lt) (fun j hj => (tz_eq 3 (by decide) j hj).1)) gL_isScript_J4_append_15ec4 rfl ⟨rfl, rfl⟩ yd_J4_append_15ec4 ⟨Nat.le_of_ble_eq_true rfl, Nat.le_of_ble_eq_true rfl⟩ (fun H locs hP hS => va_recv X.2.2.2 hP.1 (ci := 9) (q0 := 131 + 0) rfl ((LW_at (j := 0)).trans rfl)) rfl rfl (Nat.le_of_ble_eq_true rfl) ⟨Nat.le_of_ble_eq_true rfl, Nat.le_of_ble_eq_true rfl⟩ dL_isScript_75 ?_
  rintro ⟨v5, m5⟩ ⟨hm5, hn5⟩
  refine zz_world (P' := (LPw (zz_A (LZ K kL kH) s.heap.size) D (LW C K kL kH (x3, (F, hs, G, T), b) ++ [(qb, .inr (9, [.ref v5, .int 0, .int 0, .int (nI (0 + 5 + 1 + 5 + dgs f9 + 2))])), (v5, .inl (C 6, m5, .inl (tx (cat (cat (cat (cat (cat (fun _ => 0) 0 (tz 1)) (0 + 5) (fun _ => sg)) (0 + 5 + 1) (tz 2)) (0 + 5 + 1 + 5) (dgt f9 (dgs f9))) (0 + 5 + 1 + 5 + dgs f9) (tz 3)) (0 + 5 + 1 + 5 + dgs f9 + 2))))]))) (fun _ h => h) ?_
  have ht5 : ∀ j, (cat (cat (cat (cat (cat (fun _ => 0) 0 (tz 1)) (0 + 5) (fun _ => sg)) (0 + 5 + 1) (tz 2)) (0 + 5 + 1 + 5) (dgt f9 (dgs f9))) (0 + 5 + 1 + 5 + dgs f9) (tz 3)) j < 128 := cat_lt ht4 (fun _ => tz_lt)
  refine zz_iload 78 X.1 1 dL_isScript_78 rfl ?_
  refine sl_callVr 80 X hml hA DCx_ok ⟨hLA.2.2.2.1, hCO⟩ (R0 := LW C K kL kH (x3, (F, hs, G, T), b)) (As := [.int (nI o9)]) (Cn := RJ4) (kt_J4_append_bf812 l D C qb v5 (0 + 5 + 1 + 5 + dgs f9 + 2) m5 (cat (cat (cat (cat (cat (fun _ => 0) 0 (tz 1)) (0 + 5) (fun _ => sg)) (0 + 5 + 1) (tz 2)) (0 + 5 + 1 + 5) (dgt f9 (dgs f9))) (0 + 5 + 1 + 5 + dgs f9) (tz 3)) (ad 40) (ad 41) o9 hm5 (by omega) (by omega) ht5 (by omega)) gL_isScript_J4_append_bf812 rfl ⟨rfl, rfl⟩ yd_J4_append_bf812 ⟨Nat.le_of_ble_eq_true rfl, Nat.le_of_ble_eq_true rfl⟩ (fun H locs hP hS => va_recv X.2.2.2 hP.1 (ci := 9) (q0 := 131 + 0) rfl ((LW_at (j := 0)).trans rfl)) rfl rfl (Nat.le_of_ble_eq_true rfl) ⟨Nat.le_of_ble_eq_true rfl, Nat.le_of_ble_eq_true rfl⟩ dL_isScript_80 ?_
  rintro ⟨v6, m6⟩ ⟨hm6, hn6⟩
  refine zz_world (P' := (LPw (zz_A (LZ K kL kH) s.heap.size) D (LW C K kL kH (x3, (F, hs, G, T), b) ++ [(qb, .inr (9, [.ref v6, .int 0, .int 0, .int (nI (0 + 5 + 1 + 5 + dgs f9 + 2 + dgs o9))])), (v6, .inl (C 6, m6, .inl (tx (cat (cat (cat (cat (cat (cat (fun _ => 0) 0 (tz 1)) (0 + 5) (fun _ => sg)) (0 + 5 + 1) (tz 2)) (0 + 5 + 1 + 5) (dgt f9 (dgs f9))) (0 + 5 + 1 + 5 + dgs f9) (tz 3)) (0 + 5 + 1 + 5 + dgs f9 + 2) (dgt o9 (dgs o9))) (0 + 5 + 1 + 5 + dgs f9 + 2 + dgs o9))))]))) (fun _ h => h) ?_
  have ht6 : ∀ j, (cat (cat (cat (cat (cat (cat (fun _ => 0) 0 (tz 1)) (0 + 5) (fun _ => sg)) (0 + 5 + 1) (tz 2)) (0 + 5 + 1 + 5) (dgt f9 (dgs f9))) (0 + 5 + 1 + 5 + dgs f9) (tz 3)) (0 + 5 + 1 + 5 + dgs f9 + 2) (dgt o9 (dgs o9))) j < 128 := cat_lt ht5 (fun _ => dgt_lt)
  refine zs_ldc 83 X.1 X.2.2.1 hLA.2.2.1.2.2.2.2.2.1 dL_isScript_83 ?_
  refine sl_callVr 85 X hml hA STx_ok (show STx (ad 24) (ad 34) 3 (fun j => (lsb.getD 4 []).getD j 0) _ _ from STx_of hLA.2.2.1.1 hCO (i := 4) (by decide)) (R0 := LW C K kL kH (x3, (F, hs, G, T), b)) (As := [.ref (ad 24)]) (Cn := RJ4) (kt_J4_append_15ec4 l D C qb v6 (0 + 5 + 1 + 5 + dgs f9 + 2 + dgs o9) m6 (cat (cat (cat (cat (cat (cat (fun _ => 0) 0 (tz 1)) (0 + 5) (fun _ => sg)) (0 + 5 + 1) (tz 2)) (0 + 5 + 1 + 5) (dgt f9 (dgs f9))) (0 + 5 + 1 + 5 + dgs f9) (tz 3)) (0 + 5 + 1 + 5 + dgs f9 + 2) (dgt o9 (dgs o9))) (ad 24) (ad 34) 3 (fun j => (lsb.getD 4 []).getD j 0) (tz 4) hm6 (by omega) (by omega) ht6 (fun _ => tz_lt) (fun j hj => (tz_eq 4 (by decide) j hj).1)) gL_isScript_J4_append_15ec4 rfl ⟨rfl, rfl⟩ yd_J4_append_15ec4 ⟨Nat.le_of_ble_eq_true rfl, Nat.le_of_ble_eq_true rfl⟩ (fun H locs hP hS => va_recv X.2.2.2 hP.1 (ci := 9) (q0 := 131 + 0) rfl ((LW_at (j := 0)).trans rfl)) rfl rfl (Nat.le_of_ble_eq_true rfl) ⟨Nat.le_of_ble_eq_true rfl, Nat.le_of_ble_eq_true rfl⟩ dL_isScript_85 ?_
  rintro ⟨v7, m7⟩ ⟨hm7, hn7⟩
  refine zz_world (P' := (LPw (zz_A (LZ K kL kH) s.heap.size) D (LW C K kL kH (x3, (F, hs, G, T), b) ++ [(qb, .inr (9, [.ref v7, .int 0, .int 0, .int (nI (0 + 5 + 1 + 5 + dgs f9 + 2 + dgs o9 + 3))])), (v7, .inl (C 6, m7, .inl (tx (cat (cat (cat (cat (cat (cat (cat (fun _ => 0) 0 (tz 1)) (0 + 5) (fun _ => sg)) (0 + 5 + 1) (tz 2)) (0 + 5 + 1 + 5) (dgt f9 (dgs f9))) (0 + 5 + 1 + 5 + dgs f9) (tz 3)) (0 + 5 + 1 + 5 + dgs f9 + 2) (dgt o9 (dgs o9))) (0 + 5 + 1 + 5 + dgs f9 + 2 + dgs o9) (tz 4)) (0 + 5 + 1 + 5 + dgs f9 + 2 + dgs o9 + 3))))]))) (fun _ h => h) ?_
  have ht7 : ∀ j, (cat (cat (cat (cat (cat (cat (cat (fun _ => 0) 0 (tz 1)) (0 + 5) (fun _ => sg)) (0 + 5 + 1) (tz 2)) (0 + 5 + 1 + 5) (dgt f9 (dgs f9))) (0 + 5 + 1 + 5 + dgs f9) (tz 3)) (0 + 5 + 1 + 5 + dgs f9 + 2) (dgt o9 (dgs o9))) (0 + 5 + 1 + 5 + dgs f9 + 2 + dgs o9) (tz 4)) j < 128 := cat_lt ht6 (fun _ => tz_lt)
  refine zz_iload_n 88 X.1 3 dL_isScript_88 rfl ?_
  refine sl_callVr 89 X hml hA DCx_ok ⟨hLA.2.2.2.1, hCO⟩ (R0 := LW C K kL kH (x3, (F, hs, G, T), b)) (As := [.int (nI q9)]) (Cn := RJ4) (kt_J4_append_bf812 l D C qb v7 (0 + 5 + 1 + 5 + dgs f9 + 2 + dgs o9 + 3) m7 (cat (cat (cat (cat (cat (cat (cat (fun _ => 0) 0 (tz 1)) (0 + 5) (fun _ => sg)) (0 + 5 + 1) (tz 2)) (0 + 5 + 1 + 5) (dgt f9 (dgs f9))) (0 + 5 + 1 + 5 + dgs f9) (tz 3)) (0 + 5 + 1 + 5 + dgs f9 + 2) (dgt o9 (dgs o9))) (0 + 5 + 1 + 5 + dgs f9 + 2 + dgs o9) (tz 4)) (ad 40) (ad 41) q9 hm7 (by omega) (by omega) ht7 (by omega)) gL_isScript_J4_append_bf812 rfl ⟨rfl, rfl⟩ yd_J4_append_bf812 ⟨Nat.le_of_ble_eq_true rfl, Nat.le_of_ble_eq_true rfl⟩ (fun H locs hP hS => va_recv X.2.2.2 hP.1 (ci := 9) (q0 := 131 + 0) rfl ((LW_at (j := 0)).trans rfl)) rfl rfl (Nat.le_of_ble_eq_true rfl) ⟨Nat.le_of_ble_eq_true rfl, Nat.le_of_ble_eq_true rfl⟩ dL_isScript_89 ?_
  rintro ⟨v8, m8⟩ ⟨hm8, hn8⟩
  refine zz_world (P' := (LPw (zz_A (LZ K kL kH) s.heap.size) D (LW C K kL kH (x3, (F, hs, G, T), b) ++ [(qb, .inr (9, [.ref v8, .int 0, .int 0, .int (nI (0 + 5 + 1 + 5 + dgs f9 + 2 + dgs o9 + 3 + dgs q9))])), (v8, .inl (C 6, m8, .inl (tx (cat (cat (cat (cat (cat (cat (cat (cat (fun _ => 0) 0 (tz 1)) (0 + 5) (fun _ => sg)) (0 + 5 + 1) (tz 2)) (0 + 5 + 1 + 5) (dgt f9 (dgs f9))) (0 + 5 + 1 + 5 + dgs f9) (tz 3)) (0 + 5 + 1 + 5 + dgs f9 + 2) (dgt o9 (dgs o9))) (0 + 5 + 1 + 5 + dgs f9 + 2 + dgs o9) (tz 4)) (0 + 5 + 1 + 5 + dgs f9 + 2 + dgs o9 + 3) (dgt q9 (dgs q9))) (0 + 5 + 1 + 5 + dgs f9 + 2 + dgs o9 + 3 + dgs q9))))]))) (fun _ h => h) ?_
  have ht8 : ∀ j, (cat (cat (cat (cat (cat (cat (cat (cat (fun _ => 0) 0 (tz 1)) (0 + 5) (fun _ => sg)) (0 + 5 + 1) (tz 2)) (0 + 5 + 1 + 5) (dgt f9 (dgs f9))) (0 + 5 + 1 + 5 + dgs f9) (tz 3)) (0 + 5 + 1 + 5 + dgs f9 + 2) (dgt o9 (dgs o9))) (0 + 5 + 1 + 5 + dgs f9 + 2 + dgs o9) (tz 4)) (0 + 5 + 1 + 5 + dgs f9 + 2 + dgs o9 + 3) (dgt q9 (dgs q9))) j < 128 := cat_lt ht7 (fun _ => dgt_lt)
  refine zs_ldc 92 X.1 X.2.2.1 hLA.2.2.1.2.2.2.2.2.2 dL_isScript_92 ?_
  refine sl_callVr 94 X hml hA STx_ok (show STx (ad 25) (ad 35) 1 (fun j => (lsb.getD 5 []).getD j 0) _ _ from STx_of hLA.2.2.1.1 hCO (i := 5) (by decide)) (R0 := LW C K kL kH (x3, (F, hs, G, T), b)) (As := [.ref (ad 25)]) (Cn := RJ4) (kt_J4_append_15ec4 l D C qb v8 (0 + 5 + 1 + 5 + dgs f9 + 2 + dgs o9 + 3 + dgs q9) m8 (cat (cat (cat (cat (cat (cat (cat (cat (fun _ => 0) 0 (tz 1)) (0 + 5) (fun _ => sg)) (0 + 5 + 1) (tz 2)) (0 + 5 + 1 + 5) (dgt f9 (dgs f9))) (0 + 5 + 1 + 5 + dgs f9) (tz 3)) (0 + 5 + 1 + 5 + dgs f9 + 2) (dgt o9 (dgs o9))) (0 + 5 + 1 + 5 + dgs f9 + 2 + dgs o9) (tz 4)) (0 + 5 + 1 + 5 + dgs f9 + 2 + dgs o9 + 3) (dgt q9 (dgs q9))) (ad 25) (ad 35) 1 (fun j => (lsb.getD 5 []).getD j 0) (tz 5) hm8 (by omega) (by omega) ht8 (fun _ => tz_lt) (fun j hj => (tz_eq 5 (by decide) j hj).1)) gL_isScript_J4_append_15ec4 rfl ⟨rfl, rfl⟩ yd_J4_append_15ec4 ⟨Nat.le_of_ble_eq_true rfl, Nat.le_of_ble_eq_true rfl⟩ (fun H locs hP hS => va_recv X.2.2.2 hP.1 (ci := 9) (q0 := 131 + 0) rfl ((LW_at (j := 0)).trans rfl)) rfl rfl (Nat.le_of_ble_eq_true rfl) ⟨Nat.le_of_ble_eq_true rfl, Nat.le_of_ble_eq_true rfl⟩ dL_isScript_94 ?_
  rintro ⟨v9, m9⟩ ⟨hm9, hn9⟩
  refine zz_world (P' := (LPw (zz_A (LZ K kL kH) s.heap.size) D (LW C K kL kH (x3, (F, hs, G, T), b) ++ [(qb, .inr (9, [.ref v9, .int 0, .int 0, .int (nI (0 + 5 + 1 + 5 + dgs f9 + 2 + dgs o9 + 3 + dgs q9 + 1))])), (v9, .inl (C 6, m9, .inl (tx (cat (cat (cat (cat (cat (cat (cat (cat (cat (fun _ => 0) 0 (tz 1)) (0 + 5) (fun _ => sg)) (0 + 5 + 1) (tz 2)) (0 + 5 + 1 + 5) (dgt f9 (dgs f9))) (0 + 5 + 1 + 5 + dgs f9) (tz 3)) (0 + 5 + 1 + 5 + dgs f9 + 2) (dgt o9 (dgs o9))) (0 + 5 + 1 + 5 + dgs f9 + 2 + dgs o9) (tz 4)) (0 + 5 + 1 + 5 + dgs f9 + 2 + dgs o9 + 3) (dgt q9 (dgs q9))) (0 + 5 + 1 + 5 + dgs f9 + 2 + dgs o9 + 3 + dgs q9) (tz 5)) (0 + 5 + 1 + 5 + dgs f9 + 2 + dgs o9 + 3 + dgs q9 + 1))))]))) (fun _ h => h) ?_
  have ht9 : ∀ j, (cat (cat (cat (cat (cat (cat (cat (cat (cat (fun _ => 0) 0 (tz 1)) (0 + 5) (fun _ => sg)) (0 + 5 + 1) (tz 2)) (0 + 5 + 1 + 5) (dgt f9 (dgs f9))) (0 + 5 + 1 + 5 + dgs f9) (tz 3)) (0 + 5 + 1 + 5 + dgs f9 + 2) (dgt o9 (dgs o9))) (0 + 5 + 1 + 5 + dgs f9 + 2 + dgs o9) (tz 4)) (0 + 5 + 1 + 5 + dgs f9 + 2 + dgs o9 + 3) (dgt q9 (dgs q9))) (0 + 5 + 1 + 5 + dgs f9 + 2 + dgs o9 + 3 + dgs q9) (tz 5)) j < 128 := cat_lt ht8 (fun _ => tz_lt)
  obtain rfl : m9 = 34 := by omega
  refine sl_callVr 97 X hml hA COx_ok hCO (R0 := LW C K kL kH (x3, (F, hs, G, T), b)) (As := []) (Cn := RJ4) (kt_J4_toString_0e30d l D C qb v9 (0 + 5 + 1 + 5 + dgs f9 + 2 + dgs o9 + 3 + dgs q9 + 1) (cat (cat (cat (cat (cat (cat (cat (cat (cat (fun _ => 0) 0 (tz 1)) (0 + 5) (fun _ => sg)) (0 + 5 + 1) (tz 2)) (0 + 5 + 1 + 5) (dgt f9 (dgs f9))) (0 + 5 + 1 + 5 + dgs f9) (tz 3)) (0 + 5 + 1 + 5 + dgs f9 + 2) (dgt o9 (dgs o9))) (0 + 5 + 1 + 5 + dgs f9 + 2 + dgs o9) (tz 4)) (0 + 5 + 1 + 5 + dgs f9 + 2 + dgs o9 + 3) (dgt q9 (dgs q9))) (0 + 5 + 1 + 5 + dgs f9 + 2 + dgs o9 + 3 + dgs q9) (tz 5)) (by omega) ht9) gL_isScript_J4_toString_0e30d rfl ⟨rfl, rfl⟩ yd_J4_toString_0e30d ⟨Nat.le_of_ble_eq_true rfl, Nat.le_of_ble_eq_true rfl⟩ (fun H locs hP hS => va_recv X.2.2.2 hP.1 (ci := 9) (q0 := 131 + 0) rfl ((LW_at (j := 0)).trans rfl)) rfl rfl (Nat.le_of_ble_eq_true rfl) ⟨Nat.le_of_ble_eq_true rfl, Nat.le_of_ble_eq_true rfl⟩ dL_isScript_97 ?_
  rintro ⟨sa, sv⟩ _
  refine zz_world (P' := (LPw (zz_A (LZ K kL kH) s.heap.size) D (LW C K kL kH (x3, (F, hs, G, T), b) ++ [(sa, .inr (8, [.ref sv, .int (nI 0), .int 0, .int 0])), (qb, .inr (9, [.ref v9, .int 0, .int 0, .int (nI (0 + 5 + 1 + 5 + dgs f9 + 2 + dgs o9 + 3 + dgs q9 + 1))])), (v9, .inl (C 6, 34, .inl (tx (cat (cat (cat (cat (cat (cat (cat (cat (cat (fun _ => 0) 0 (tz 1)) (0 + 5) (fun _ => sg)) (0 + 5 + 1) (tz 2)) (0 + 5 + 1 + 5) (dgt f9 (dgs f9))) (0 + 5 + 1 + 5 + dgs f9) (tz 3)) (0 + 5 + 1 + 5 + dgs f9 + 2) (dgt o9 (dgs o9))) (0 + 5 + 1 + 5 + dgs f9 + 2 + dgs o9) (tz 4)) (0 + 5 + 1 + 5 + dgs f9 + 2 + dgs o9 + 3) (dgt q9 (dgs q9))) (0 + 5 + 1 + 5 + dgs f9 + 2 + dgs o9 + 3 + dgs q9) (tz 5)) (0 + 5 + 1 + 5 + dgs f9 + 2 + dgs o9 + 3 + dgs q9 + 1)))), (sv, .inl (C 6, 0 + 5 + 1 + 5 + dgs f9 + 2 + dgs o9 + 3 + dgs q9 + 1, .inl (tx (cat (cat (cat (cat (cat (cat (cat (cat (cat (fun _ => 0) 0 (tz 1)) (0 + 5) (fun _ => sg)) (0 + 5 + 1) (tz 2)) (0 + 5 + 1 + 5) (dgt f9 (dgs f9))) (0 + 5 + 1 + 5 + dgs f9) (tz 3)) (0 + 5 + 1 + 5 + dgs f9 + 2) (dgt o9 (dgs o9))) (0 + 5 + 1 + 5 + dgs f9 + 2 + dgs o9) (tz 4)) (0 + 5 + 1 + 5 + dgs f9 + 2 + dgs o9 + 3) (dgt q9 (dgs q9))) (0 + 5 + 1 + 5 + dgs f9 + 2 + dgs o9 + 3 + dgs q9) (tz 5)) (0 + 5 + 1 + 5 + dgs f9 + 2 + dgs o9 + 3 + dgs q9 + 1))))]))) (fun _ h => h) ?_
  refine zl_tail [0, 3] (w' := [(sa, .inr (8, [.ref sv, .int (nI 0), .int 0, .int 0])), (sv, .inl (C 6, 0 + 5 + 1 + 5 + dgs f9 + 2 + dgs o9 + 3 + dgs q9 + 1, .inl (tx (cat (cat (cat (cat (cat (cat (cat (cat (cat (fun _ => 0) 0 (tz 1)) (0 + 5) (fun _ => sg)) (0 + 5 + 1) (tz 2)) (0 + 5 + 1 + 5) (dgt f9 (dgs f9))) (0 + 5 + 1 + 5 + dgs f9) (tz 3)) (0 + 5 + 1 + 5 + dgs f9 + 2) (dgt o9 (dgs o9))) (0 + 5 + 1 + 5 + dgs f9 + 2 + dgs o9) (tz 4)) (0 + 5 + 1 + 5 + dgs f9 + 2 + dgs o9 + 3) (dgt q9 (dgs q9))) (0 + 5 + 1 + 5 + dgs f9 + 2 + dgs o9 + 3 + dgs q9) (tz 5)) (0 + 5 + 1 + 5 + dgs f9 + 2 + dgs o9 + 3 + dgs q9 + 1))))]) rfl rfl rfl ?_
  obtain ⟨nt, hnt⟩ : ∃ z : Nat, z = scn f9 o9 q9 := ⟨_, rfl⟩
  have hnt2 : nt = 17 + dgs f9 + dgs o9 + dgs q9 := by rw [hnt]; unfold scn; omega
  refine zz_world (P' := (LPw (zz_A (LZ K kL kH) s.heap.size) D (LW C K kL kH (x3, (F, hs, G, T), b) ++ [(sa, .inr (8, [.ref sv, .int (nI 0), .int 0, .int 0])), (sv, .inl (C 6, nt, .inl (tx (pd (sctx sg f9 o9 q9) nt) nt)))]))) (fun _ h => by rw [hnt, ← pd_tx]; exact h) ?_
  have hpd : ∀ j, 0 < pd (sctx sg f9 o9 q9) nt j ∧ pd (sctx sg f9 o9 q9) nt j < 128 := pd_ok (fun j hj => sc_ok hsg j (hnt ▸ hj))
  refine zz_astore 100 X.1 (lv' := [(6, .ref sa), (5, .int (nI sg)), (4, .int (nI o9)), (3, .int (nI f9)), (2, .int (nI q9)), (1, .int (nI u9)), (0, .ref kL)]) dL_isScript_100 (by decide) rfl ?_
  refine zz_aload_n 102 X.1 6 dL_isScript_102 rfl ?_
  refine zz_aload 103 X.1 0 dL_isScript_103 rfl ?_
  refine ll_callN 105 X hLA hml hAp (by decide +kernel) (j0 := 0) (j1 := 1) rfl rfl (As := [.ref sa]) (kt_L_says l D C K kL kH ad hAp x3 F hs G T b sa sv nt (pd (sctx sg f9 o9 q9) nt) (by omega) hpd hF0) gL_isScript_L_says rfl ⟨rfl, rfl⟩ yd_L_says ⟨Nat.le_of_ble_eq_true rfl, Nat.le_of_ble_eq_true rfl⟩ rfl rfl (Nat.le_of_ble_eq_true rfl) ⟨Nat.le_of_ble_eq_true rfl, Nat.le_of_ble_eq_true rfl⟩ dL_isScript_105 ?_
  rintro r105 ⟨x105, ⟨F105, hs105, G105, T105⟩, b105⟩ hu105
  obtain ⟨F1_, G1_, rfl, hv105, hf4, hg3⟩ := hu105
  cases hv105
  refine zz_world (P' := (LPw (zz_A (LZ K kL kH) s.heap.size) D (LW C K kL kH (x3, (F105, hs, G105, T), b) ++ [(sa, .inr (8, [.ref sv, .int (nI 0), .int 0, .int 0])), (sv, .inl (C 6, nt, .inl (tx (pd (sctx sg f9 o9 q9) nt) nt)))]))) (fun _ h => h) ?_
  refine zz_aload 108 X.1 0 dL_isScript_108 rfl ?_
  refine sl_callVi 110 X hml hA COx_ok hCO (R0 := LW C K kL kH (x3, (F105, hs, G105, T), b)) (As := []) (Cn := RJ0) (kt_J0_length_w l D C sa sv nt (tx (pd (sctx sg f9 o9 q9) nt) nt) (by omega)) gL_isScript_J0_length_8abf5 rfl ⟨rfl, rfl⟩ yd_J0_length_8abf5 ⟨Nat.le_of_ble_eq_true rfl, Nat.le_of_ble_eq_true rfl⟩ (fun H locs hP hS => va_recv X.2.2.2 hP.1 (ci := 8) (q0 := 131 + 0) rfl ((LW_at (j := 0)).trans rfl)) rfl rfl (Nat.le_of_ble_eq_true rfl) ⟨Nat.le_of_ble_eq_true rfl, Nat.le_of_ble_eq_true rfl⟩ dL_isScript_110 ?_
  rintro r110 _ rfl
  refine zz_world (P' := (LPw (zz_A (LZ K kL kH) s.heap.size) D (LW C K kL kH (x3, (F105, hs, G105, T), b) ++ [(sa, .inr (8, [.ref sv, .int (nI 0), .int 0, .int 0])), (sv, .inl (C 6, nt, .inl (tx (pd (sctx sg f9 o9 q9) nt) nt)))]))) (fun _ h => h) ?_
  refine zz_ofL ?_
  refine zz_world (P' := (LPo D C K kL kH (x3, (F105, hs, G105, T), b))) (fun _ h => h) ?_
  refine zz_icmp_ne 113 149 X.1 (nI_toInt (by omega)) (nI_toInt (by omega)) dL_isScript_113 (by decide) (fun h113 => ?_) (fun h113 => ?_)
  · exfalso; omega
  · skip
    refine zz_aload_n 116 X.1 6 dL_isScript_116 rfl ?_
    refine ll_get 117 X mL0 1 (by decide) (v := .ref (K 0)) rfl mF rfl dL_isScript_117 ?_
    have hsc := sc_tc (g := G105 3) hg3 (fun j _ => hpd j)
    have hck : SCK (tK (tc (G105 3) nt) nt) (tV (tc (G105 3) nt) nt) sg f9 o9 q9 := sc_tok (by omega) (by omega) (by omega) hsg hnt (fun j hj => (hsc.2 j hj).trans (pd_at hj))
    have hokS := sc_okS hck hsg
    have hstp := sc_stp hck hsg (by omega)
    have hXs := sc_hX (hs := hs) hck hsg
    refine ll_callDA 120 X hLA hml hAp (As := []) (kt_X6_run_ok l D C K (fun _ => ad 0) (fun _ => ad 1) hAp.1 F105 hs G105 T (tK (tc (G105 3) nt) nt) (tV (tc (G105 3) nt) nt) (tS (tc (G105 3) nt) nt) 4 nt 4 (hf4) (by omega) (hsc.1) (rfl) (rfl) (rfl) (hokS.1) (hokS.2) (hstp) (rfl)) gL_isScript_X6_run rfl ⟨rfl, rfl⟩ yd_X6_run ⟨Nat.le_of_ble_eq_true rfl, Nat.le_of_ble_eq_true rfl⟩ rfl rfl (Nat.le_of_ble_eq_true rfl) ⟨Nat.le_of_ble_eq_true rfl, Nat.le_of_ble_eq_true rfl⟩ dL_isScript_120 ?_
    rintro r4 ⟨F4, hs4, G4, T4⟩ hu4
    obtain ⟨T1_4, gl_4, c1_4, ix_4, nt_4, g40_4, g41_4, g42_4, rfl, hv4⟩ := hu4
    cases hv4
    refine zz_world (P' := (LPo D C K kL kH (x3, ((upd (upd (upd (upd (upd (upd (upd (upd F105 4 (nI 0)) 16 (-1)) 17 (-1)) 30 (nI 4)) 31 (nI c1_4)) 32 (nI nt_4)) 33 (nI ix_4)) 34 (nI nt)), (hX (tK (tc (G105 3) nt) nt) (tV (tc (G105 3) nt) nt) hs 4), (va_up (va_up (va_up (va_up G105 40 g40_4) 41 g41_4) 42 g42_4) 43 gl_4), T4), b))) (fun _ h => h) ?_
    have hF16 : ((upd (upd (upd (upd (upd (upd (upd (upd F105 4 (nI 0)) 16 (-1)) 17 (-1)) 30 (nI 4)) 31 (nI c1_4)) 32 (nI nt_4)) 33 (nI ix_4)) 34 (nI nt))) 16 = -1 := rfl
    have hF17 : ((upd (upd (upd (upd (upd (upd (upd (upd F105 4 (nI 0)) 16 (-1)) 17 (-1)) 30 (nI 4)) 31 (nI c1_4)) 32 (nI nt_4)) 33 (nI ix_4)) 34 (nI nt))) 17 = -1 := rfl
    obtain ⟨F8, eF8⟩ : ∃ z, z = (upd (upd (upd (upd (upd (upd (upd (upd F105 4 (nI 0)) 16 (-1)) 17 (-1)) 30 (nI 4)) 31 (nI c1_4)) 32 (nI nt_4)) 33 (nI ix_4)) 34 (nI nt)) := ⟨_, rfl⟩
    obtain ⟨G8, eG8⟩ : ∃ z, z = (va_up (va_up (va_up (va_up G105 40 g40_4) 41 g41_4) 42 g42_4) 43 gl_4) := ⟨_, rfl⟩
    rw [← eF8] at hF16 hF17
    refine zz_world (P' := (LPo D C K kL kH (x3, (F8, (hX (tK (tc (G105 3) nt) nt) (tV (tc (G105 3) nt) nt) hs 4), G8, T4), b))) (fun _ h => by rw [eF8, eG8]; exact h) ?_
    obtain ⟨hs5, eh5⟩ : ∃ h, h = (hX (tK (tc (G105 3) nt) nt) (tV (tc (G105 3) nt) nt) hs 4) := ⟨_, rfl⟩
    refine zz_world (P' := (LPo D C K kL kH (x3, (F8, hs5, G8, T4), b))) (lp_hs eh5.symm) ?_
    rw [← eh5] at hXs
    have g5_0 : ∀ i, i < 1024 → hM hs5 0 i = (hM hs 0 i) := fun i hi => hXs.1 0 i (by decide) hi
    have g5_1 : ∀ i, i < 1024 → hM hs5 1 i = (hM hs 1 i) := fun i hi => hXs.1 1 i (by decide) hi
    have g5_5 := hXs.2
    have rd5 : RD hs5 b := RD_hX hrd (fun z i hz hi => hXs.1 z i (by omega) hi)
    refine zz_iconst 123 X.1 (v := nI 4) dL_isScript_123 rfl ?_
    refine zz_icmp_ne 124 149 X.1 (nI_toInt (by omega)) (nI_toInt (by omega)) dL_isScript_124 (by decide) (fun h124 => ?_) (fun h124 => ?_)
    · exfalso; omega
    · skip
      refine zz_aload_n 127 X.1 6 dL_isScript_127 rfl ?_
      refine ll_get 128 X mL0 1 (by decide) (v := .ref (K 0)) rfl mF rfl dL_isScript_128 ?_
      refine ll_callDi 131 X hml hAp (As := []) (kt_X6_errorPosition_ok l D C K hAp.1 F8 hs5 G8 T4 ) gL_isScript_X6_errorPosition rfl ⟨rfl, rfl⟩ yd_X6_errorPosition ⟨Nat.le_of_ble_eq_true rfl, Nat.le_of_ble_eq_true rfl⟩ rfl rfl (Nat.le_of_ble_eq_true rfl) ⟨Nat.le_of_ble_eq_true rfl, Nat.le_of_ble_eq_true rfl⟩ dL_isScript_131 ?_
      rintro r6 ⟨F6, hs6, G6, T6⟩ hu6
      obtain ⟨rfl, hv6⟩ := hu6
      cases hv6
      refine zz_world (P' := (LPo D C K kL kH (x3, (F8, hs5, G8, T4), b))) (fun _ h => h) ?_
      refine zz_topi (-1) hF16 ?_
      refine zz_iconst 134 X.1 (v := (-1)) dL_isScript_134 (by decide) ?_
      refine zz_icmp_ne 135 149 X.1 (by decide : (-1 : Int32).toInt = -1) (by decide : (-1 : Int32).toInt = -1) dL_isScript_135 (by decide) (fun h135 => ?_) (fun h135 => ?_)
      · exfalso; omega
      · skip
        refine zz_aload_n 138 X.1 6 dL_isScript_138 rfl ?_
        refine ll_get 139 X mL0 1 (by decide) (v := .ref (K 0)) rfl mF rfl dL_isScript_139 ?_
        refine ll_callDi 142 X hml hAp (As := []) (kt_X6_stoppedAt_ok l D C K hAp.1 F8 hs5 G8 T4 ) gL_isScript_X6_stoppedAt rfl ⟨rfl, rfl⟩ yd_X6_stoppedAt ⟨Nat.le_of_ble_eq_true rfl, Nat.le_of_ble_eq_true rfl⟩ rfl rfl (Nat.le_of_ble_eq_true rfl) ⟨Nat.le_of_ble_eq_true rfl, Nat.le_of_ble_eq_true rfl⟩ dL_isScript_142 ?_
        rintro r7 ⟨F7, hs7, G7, T7⟩ hu7
        obtain ⟨rfl, hv7⟩ := hu7
        cases hv7
        refine zz_world (P' := (LPo D C K kL kH (x3, (F8, hs5, G8, T4), b))) (fun _ h => h) ?_
        refine zz_topi (-1) hF17 ?_
        refine zz_iconst 145 X.1 (v := (-1)) dL_isScript_145 (by decide) ?_
        refine zz_icmp_eq 146 151 X.1 (by decide : (-1 : Int32).toInt = -1) (by decide : (-1 : Int32).toInt = -1) dL_isScript_146 (by decide) (fun h146 => ?_) (fun h146 => ?_)
        · skip
          refine zz_aload_n 151 X.1 6 dL_isScript_151 rfl ?_
          refine zz_bipush 152 X.1 (v := nI 6) dL_isScript_152 rfl ?_
          refine zz_iconst 154 X.1 (v := nI 0) dL_isScript_154 rfl ?_
          refine zz_iconst 155 X.1 (v := nI 0) dL_isScript_155 rfl ?_
          refine ll_callLv 156 X hLA hml (As := [.int (nI 6), .int (nI 0), .int (bI false)]) (kt_L_copies l D C K kL kH ad hAp x3 F8 hs5 G8 T4 b 6 0 false (by first | rfl | assumption | omega) (by first | rfl | assumption | omega)) gL_isScript_L_copies rfl ⟨rfl, rfl⟩ yd_L_copies ⟨Nat.le_of_ble_eq_true rfl, Nat.le_of_ble_eq_true rfl⟩ rfl rfl (Nat.le_of_ble_eq_true rfl) ⟨Nat.le_of_ble_eq_true rfl, Nat.le_of_ble_eq_true rfl⟩ dL_isScript_156 ?_
          rintro ⟨x8, ⟨F8, hs8, G8, T8⟩, b8⟩ hu8
          have hv8 := hu8
          cases hv8
          refine zz_world (P' := (LPo D C K kL kH (x3, (F8, (sS hs5 6 (fun i => false ^^ hM hs5 0 i)), G8, T4), b))) (fun _ h => h) ?_
          obtain ⟨hs9, eh9⟩ : ∃ h, h = sS hs5 6 (fun i => false ^^ hM hs5 0 i) := ⟨_, rfl⟩
          refine zz_world (P' := (LPo D C K kL kH (x3, (F8, hs9, G8, T4), b))) (lp_hs eh9.symm) ?_
          have g9_6 : ∀ i, i < 1024 → hM hs9 6 i = ((hM hs 0 i)) := fun i hi => (by rw [eh9]; exact hM_sS hi : hM hs9 6 i = (fun i => false ^^ hM hs5 0 i) i).trans ((fun i hi => (Bool.false_xor _).trans (g5_0 i hi)) i hi)
          have g9_0 : ∀ i, i < 1024 → hM hs9 0 i = (hM hs 0 i) := fun i hi => (by rw [eh9]; exact hM_sSo (by omega) hi : hM hs9 0 i = hM hs5 0 i).trans (g5_0 i hi)
          have g9_1 : ∀ i, i < 1024 → hM hs9 1 i = (hM hs 1 i) := fun i hi => (by rw [eh9]; exact hM_sSo (by omega) hi : hM hs9 1 i = hM hs5 1 i).trans (g5_1 i hi)
          have g9_5 : ∀ i, i < 1024 → hM hs9 5 i = (p1 (pX (fun j => pJ sg (hM hs 0 j) (hM hs 1 j)) f9 o9) q9 true i) := fun i hi => (by rw [eh9]; exact hM_sSo (by omega) hi : hM hs9 5 i = hM hs5 5 i).trans (g5_5 i hi)
          have rd9 : RD hs9 b := eh9 ▸ RD_sS rd5 (by omega)
          have C229 : ∀ (hs7 : Nat → Bool) (r7 : Nat) (hr7 : r7 ≤ 1024) (h75 : ∀ i, i < 1024 → hM hs7 5 i = (p1 (pX (fun j => pJ sg (hM hs 0 j) (hM hs 1 j)) f9 o9) q9 true) i) (h76 : ∀ i, i < 1024 → hM hs7 6 i = pJ sg (hM hs 0 i) (hM hs 1 i)) (hrd7 : RD hs7 b), ZZ p l e rm_L_isScript s m args below meth c 13 364 Q (zz_A (LZ K kL kH) s.heap.size) (LPo D C K kL kH (x3, (F8, hs7, G8, T4), b)) 10 [(0, .ref kL), (2, .int (nI q9)), (3, .int (nI f9)), (4, .int (nI o9))] [.int (nI r7)] 229 := by
            intro hs7 r7 hr7 h75 h76 hrd7
            refine zz_istore 229 X.1 (lv' := [(7, .int (nI r7)), (0, .ref kL), (2, .int (nI q9)), (3, .int (nI f9)), (4, .int (nI o9))]) dL_isScript_229 (by decide) rfl ?_
            refine zz_aload_n 231 X.1 1 dL_isScript_231 rfl ?_
            refine ll_get 232 X mL0 1 (by decide) (v := .ref (K 0)) rfl mF rfl dL_isScript_232 ?_
            refine zz_bipush 235 X.1 (v := nI 6) dL_isScript_235 rfl ?_
            refine zz_iload_n 237 X.1 3 dL_isScript_237 rfl ?_
            refine zz_iload 238 X.1 4 dL_isScript_238 rfl ?_
            refine ll_callDi 240 X hml hAp (As := [.int (nI 6), .int (nI f9), .int (nI o9)]) (kt_X6_flipRange_ok l D C K hAp.1 F8 hs7 G8 T4 6 f9 o9 (by first | rfl | assumption | omega) (by first | rfl | assumption | omega)) gL_isScript_X6_flipRange rfl ⟨rfl, rfl⟩ yd_X6_flipRange ⟨Nat.le_of_ble_eq_true rfl, Nat.le_of_ble_eq_true rfl⟩ rfl rfl (Nat.le_of_ble_eq_true rfl) ⟨Nat.le_of_ble_eq_true rfl, Nat.le_of_ble_eq_true rfl⟩ dL_isScript_240 ?_
            rintro r10 ⟨F10, hs10, G10, T10⟩ hu10
            obtain ⟨rfl, hv10⟩ := hu10
            cases hv10
            refine zz_world (P' := (LPo D C K kL kH (x3, (F8, (sS hs7 6 (pX (hM hs7 6) f9 o9)), G8, T4), b))) (fun _ h => h) ?_
            obtain ⟨hs11, eh11⟩ : ∃ h, h = sS hs7 6 (pX (hM hs7 6) f9 o9) := ⟨_, rfl⟩
            refine zz_world (P' := (LPo D C K kL kH (x3, (F8, hs11, G8, T4), b))) (lp_hs eh11.symm) ?_
            have g11_6 : ∀ i, i < 1024 → hM hs11 6 i = (pX (fun i => pJ sg (hM hs 0 i) (hM hs 1 i)) f9 o9 i) := fun i hi => (by rw [eh11]; exact hM_sS hi : hM hs11 6 i = (pX (hM hs7 6) f9 o9) i).trans ((pX_cong h76) i hi)
            have g11_5 : ∀ i, i < 1024 → hM hs11 5 i = (p1 (pX (fun j => pJ sg (hM hs 0 j) (hM hs 1 j)) f9 o9) q9 true i) := fun i hi => (by rw [eh11]; exact hM_sSo (by omega) hi : hM hs11 5 i = hM hs7 5 i).trans (h75 i hi)
            have rd11 : RD hs11 b := eh11 ▸ RD_sS hrd7 (by omega)
            refine zz_topi (nI (ct (pX (fun i => pJ sg (hM hs 0 i) (hM hs 1 i)) f9 o9) 1024)) (congrArg nI (ct_cong (pX_cong h76))) ?_
            refine zz_istore 243 X.1 (lv' := [(8, .int (nI (ct (pX (fun i => pJ sg (hM hs 0 i) (hM hs 1 i)) f9 o9) 1024))), (7, .int (nI r7)), (0, .ref kL), (2, .int (nI q9)), (3, .int (nI f9)), (4, .int (nI o9))]) dL_isScript_243 (by decide) rfl ?_
            refine zz_aload_n 245 X.1 2 dL_isScript_245 rfl ?_
            refine ll_get 246 X mL0 1 (by decide) (v := .ref (K 0)) rfl mF rfl dL_isScript_246 ?_
            refine zz_bipush 249 X.1 (v := nI 6) dL_isScript_249 rfl ?_
            refine zz_iload_n 251 X.1 3 dL_isScript_251 rfl ?_
            refine ll_callDi 252 X hml hAp (As := [.int (nI 6), .int (nI q9)]) (kt_X6_add_ok l D C K hAp.1 F8 hs11 G8 T4 6 q9 (by first | rfl | assumption | omega) (by first | rfl | assumption | omega)) gL_isScript_X6_add rfl ⟨rfl, rfl⟩ yd_X6_add ⟨Nat.le_of_ble_eq_true rfl, Nat.le_of_ble_eq_true rfl⟩ rfl rfl (Nat.le_of_ble_eq_true rfl) ⟨Nat.le_of_ble_eq_true rfl, Nat.le_of_ble_eq_true rfl⟩ dL_isScript_252 ?_
            rintro r12 ⟨F12, hs12, G12, T12⟩ hu12
            obtain ⟨rfl, hv12⟩ := hu12
            cases hv12
            refine zz_world (P' := (LPo D C K kL kH (x3, (F8, (sS hs11 6 (p1 (hM hs11 6) q9 true)), G8, T4), b))) (fun _ h => h) ?_
            obtain ⟨hs13, eh13⟩ : ∃ h, h = sS hs11 6 (p1 (hM hs11 6) q9 true) := ⟨_, rfl⟩
            refine zz_world (P' := (LPo D C K kL kH (x3, (F8, hs13, G8, T4), b))) (lp_hs eh13.symm) ?_
            have g13_6 : ∀ i, i < 1024 → hM hs13 6 i = (p1 (pX (fun i => pJ sg (hM hs 0 i) (hM hs 1 i)) f9 o9) q9 true i) := fun i hi => (by rw [eh13]; exact hM_sS hi : hM hs13 6 i = (p1 (hM hs11 6) q9 true) i).trans ((p1_cong g11_6) i hi)
            have g13_5 : ∀ i, i < 1024 → hM hs13 5 i = (p1 (pX (fun j => pJ sg (hM hs 0 j) (hM hs 1 j)) f9 o9) q9 true i) := fun i hi => (by rw [eh13]; exact hM_sSo (by omega) hi : hM hs13 5 i = hM hs11 5 i).trans (g11_5 i hi)
            have rd13 : RD hs13 b := eh13 ▸ RD_sS rd11 (by omega)
            refine zz_istore 255 X.1 (lv' := [(9, .int (bI (!hM hs11 6 q9))), (8, .int (nI (ct (pX (fun i => pJ sg (hM hs 0 i) (hM hs 1 i)) f9 o9) 1024))), (7, .int (nI r7)), (0, .ref kL), (2, .int (nI q9)), (3, .int (nI f9)), (4, .int (nI o9))]) dL_isScript_255 (by decide) rfl ?_
            refine zz_iload 257 X.1 2 dL_isScript_257 rfl ?_
            refine zz_if_lt 259 304 X.1 (nI_toInt (by omega)) dL_isScript_259 (by decide) (fun h259 => ?_) (fun h259 => ?_)
            · exfalso; omega
            · skip
              refine zz_aload_n 262 X.1 3 dL_isScript_262 rfl ?_
              refine ll_get 263 X mL0 1 (by decide) (v := .ref (K 0)) rfl mF rfl dL_isScript_263 ?_
              refine zz_bipush 266 X.1 (v := nI 6) dL_isScript_266 rfl ?_
              refine ll_callDi 268 X hml hAp (As := [.int (nI 6)]) (kt_X6_count_ok l D C K hAp.1 F8 hs13 G8 T4 6 (by first | rfl | assumption | omega)) gL_isScript_X6_count rfl ⟨rfl, rfl⟩ yd_X6_count ⟨Nat.le_of_ble_eq_true rfl, Nat.le_of_ble_eq_true rfl⟩ rfl rfl (Nat.le_of_ble_eq_true rfl) ⟨Nat.le_of_ble_eq_true rfl, Nat.le_of_ble_eq_true rfl⟩ dL_isScript_268 ?_
              rintro r15 ⟨F15, hs15, G15, T15⟩ hu15
              obtain ⟨rfl, hv15⟩ := hu15
              cases hv15
              refine zz_world (P' := (LPo D C K kL kH (x3, (F8, hs13, G8, T4), b))) (fun _ h => h) ?_
              refine zz_topi (nI (ct (p1 (pX (fun i => pJ sg (hM hs 0 i) (hM hs 1 i)) f9 o9) q9 true) 1024)) (congrArg nI (ct_cong g13_6)) ?_
              refine zz_iload 271 X.1 1 dL_isScript_271 rfl ?_
              refine zz_iload 273 X.1 0 dL_isScript_273 rfl ?_
              refine zz_ifB_eq 275 282 X.1 dL_isScript_275 (by decide) (fun h275 => ?_) (fun h275 => ?_)
              · skip
                refine zz_iconst 282 X.1 (v := nI 0) dL_isScript_282 rfl ?_
                refine zz_iadd 283 X.1 (v := (nI ((ct (pX (fun i => pJ sg (hM hs 0 i) (hM hs 1 i)) f9 o9) 1024) + 0))) dL_isScript_283 (nI_add _ _) ?_
                have hcb16_0 := ct_le (p1 (pX (fun i => pJ sg (hM hs 0 i) (hM hs 1 i)) f9 o9) q9 true) 1024
                have hcb16_1 := ct_le (pX (fun i => pJ sg (hM hs 0 i) (hM hs 1 i)) f9 o9) 1024
                refine zz_icmp_ne 284 304 X.1 (nI_toInt (by omega)) (nI_toInt (by omega)) dL_isScript_284 (by decide) (fun h284 => ?_) (fun h284 => ?_)
                · exfalso; have e := ct_p1 (r := (pX (fun i => pJ sg (hM hs 0 i) (hM hs 1 i)) f9 o9)) (q := q9) 1024 (by omega); have e2 := g11_6 q9 (by omega); rcases zb_tf ((pX (fun i => pJ sg (hM hs 0 i) (hM hs 1 i)) f9 o9) q9) with z | z; (rw [if_pos z] at e; rw [z] at e2; rw [e2] at h275; first | omega | exact absurd h275 (by decide)); (rw [if_neg (by rw [z]; decide)] at e; rw [z] at e2; rw [e2] at h275; first | omega | exact absurd h275 (by decide))
                · skip
                  refine zz_aload_n 287 X.1 3 dL_isScript_287 rfl ?_
                  refine ll_get 288 X mL0 1 (by decide) (v := .ref (K 0)) rfl mF rfl dL_isScript_288 ?_
                  refine zz_iconst 291 X.1 (v := nI 5) dL_isScript_291 rfl ?_
                  refine zz_bipush 292 X.1 (v := nI 6) dL_isScript_292 rfl ?_
                  refine ll_callDi 294 X hml hAp (As := [.int (nI 5), .int (nI 6)]) (kt_X6_areEqual_ok l D C K hAp.1 F8 hs13 G8 T4 5 6 (by first | rfl | assumption | omega) (by first | rfl | assumption | omega)) gL_isScript_X6_areEqual rfl ⟨rfl, rfl⟩ yd_X6_areEqual ⟨Nat.le_of_ble_eq_true rfl, Nat.le_of_ble_eq_true rfl⟩ rfl rfl (Nat.le_of_ble_eq_true rfl) ⟨Nat.le_of_ble_eq_true rfl, Nat.le_of_ble_eq_true rfl⟩ dL_isScript_294 ?_
                  rintro r17 ⟨F17, hs17, G17, T17⟩ hu17
                  obtain ⟨rfl, hv17⟩ := hu17
                  cases hv17
                  refine zz_world (P' := (LPo D C K kL kH (x3, (F8, hs13, G8, T4), b))) (fun _ h => h) ?_
                  refine zz_ifB_eq 297 304 X.1 dL_isScript_297 (by decide) (fun h297 => ?_) (fun h297 => ?_)
                  · exfalso; exact absurd ((eq_t (fun i hi => by rw [g13_5 i hi, g13_6 i hi])).symm.trans h297) (by decide)
                  · skip
                    refine zz_iconst 300 X.1 (v := nI 1) dL_isScript_300 rfl ?_
                    refine zz_goto 301 305 X.1 dL_isScript_301 (by decide) ?_
                    refine zz_topi (bI true) rfl ?_
                    rw [← hQ]
                    refine zz_widen (k := 13) (j := 364) (by decide) (by decide) ?_
                    refine zz_iret 305 X.1 hr (bI_nar _) hlk (x3, (F8, hs13, G8, T4), b) ?_ (fun _ h _ => h) dL_isScript_305
                    exact ⟨_, _, _, _, _, rfl, rfl, rd13⟩
              · skip
                refine zz_iconst 278 X.1 (v := nI 1) dL_isScript_278 rfl ?_
                refine zz_goto 279 283 X.1 dL_isScript_279 (by decide) ?_
                refine zz_iadd 283 X.1 (v := (nI ((ct (pX (fun i => pJ sg (hM hs 0 i) (hM hs 1 i)) f9 o9) 1024) + 1))) dL_isScript_283 (nI_add _ _) ?_
                have hcb18_0 := ct_le (p1 (pX (fun i => pJ sg (hM hs 0 i) (hM hs 1 i)) f9 o9) q9 true) 1024
                have hcb18_1 := ct_le (pX (fun i => pJ sg (hM hs 0 i) (hM hs 1 i)) f9 o9) 1024
                refine zz_icmp_ne 284 304 X.1 (nI_toInt (by omega)) (nI_toInt (by omega)) dL_isScript_284 (by decide) (fun h284 => ?_) (fun h284 => ?_)
                · exfalso; have e := ct_p1 (r := (pX (fun i => pJ sg (hM hs 0 i) (hM hs 1 i)) f9 o9)) (q := q9) 1024 (by omega); have e2 := g11_6 q9 (by omega); rcases zb_tf ((pX (fun i => pJ sg (hM hs 0 i) (hM hs 1 i)) f9 o9) q9) with z | z; (rw [if_pos z] at e; rw [z] at e2; rw [e2] at h275; first | omega | exact absurd h275 (by decide)); (rw [if_neg (by rw [z]; decide)] at e; rw [z] at e2; rw [e2] at h275; first | omega | exact absurd h275 (by decide))
                · skip
                  refine zz_aload_n 287 X.1 3 dL_isScript_287 rfl ?_
                  refine ll_get 288 X mL0 1 (by decide) (v := .ref (K 0)) rfl mF rfl dL_isScript_288 ?_
                  refine zz_iconst 291 X.1 (v := nI 5) dL_isScript_291 rfl ?_
                  refine zz_bipush 292 X.1 (v := nI 6) dL_isScript_292 rfl ?_
                  refine ll_callDi 294 X hml hAp (As := [.int (nI 5), .int (nI 6)]) (kt_X6_areEqual_ok l D C K hAp.1 F8 hs13 G8 T4 5 6 (by first | rfl | assumption | omega) (by first | rfl | assumption | omega)) gL_isScript_X6_areEqual rfl ⟨rfl, rfl⟩ yd_X6_areEqual ⟨Nat.le_of_ble_eq_true rfl, Nat.le_of_ble_eq_true rfl⟩ rfl rfl (Nat.le_of_ble_eq_true rfl) ⟨Nat.le_of_ble_eq_true rfl, Nat.le_of_ble_eq_true rfl⟩ dL_isScript_294 ?_
                  rintro r19 ⟨F19, hs19, G19, T19⟩ hu19
                  obtain ⟨rfl, hv19⟩ := hu19
                  cases hv19
                  refine zz_world (P' := (LPo D C K kL kH (x3, (F8, hs13, G8, T4), b))) (fun _ h => h) ?_
                  refine zz_ifB_eq 297 304 X.1 dL_isScript_297 (by decide) (fun h297 => ?_) (fun h297 => ?_)
                  · exfalso; exact absurd ((eq_t (fun i hi => by rw [g13_5 i hi, g13_6 i hi])).symm.trans h297) (by decide)
                  · skip
                    refine zz_iconst 300 X.1 (v := nI 1) dL_isScript_300 rfl ?_
                    refine zz_goto 301 305 X.1 dL_isScript_301 (by decide) ?_
                    refine zz_topi (bI true) rfl ?_
                    rw [← hQ]
                    refine zz_widen (k := 13) (j := 364) (by decide) (by decide) ?_
                    refine zz_iret 305 X.1 hr (bI_nar _) hlk (x3, (F8, hs13, G8, T4), b) ?_ (fun _ h _ => h) dL_isScript_305
                    exact ⟨_, _, _, _, _, rfl, rfl, rd13⟩
          refine zz_iload 159 X.1 1 dL_isScript_159 rfl ?_
          refine zz_bipush 161 X.1 (v := nI 38) dL_isScript_161 rfl ?_
          refine zz_icmp_ne 163 179 X.1 (nI_toInt (by omega)) (nI_toInt (by omega)) dL_isScript_163 (by decide) (fun h163 => ?_) (fun h163 => ?_)
          · skip
            refine zz_iload 179 X.1 1 dL_isScript_179 rfl ?_
            refine zz_bipush 181 X.1 (v := nI 124) dL_isScript_181 rfl ?_
            refine zz_icmp_ne 183 199 X.1 (nI_toInt (by omega)) (nI_toInt (by omega)) dL_isScript_183 (by decide) (fun h183 => ?_) (fun h183 => ?_)
            · skip
              refine zz_iload 199 X.1 1 dL_isScript_199 rfl ?_
              refine zz_bipush 201 X.1 (v := nI 126) dL_isScript_201 rfl ?_
              refine zz_icmp_ne 203 219 X.1 (nI_toInt (by omega)) (nI_toInt (by omega)) dL_isScript_203 (by decide) (fun h203 => ?_) (fun h203 => ?_)
              · skip
                refine zz_aload_n 219 X.1 6 dL_isScript_219 rfl ?_
                refine ll_get 220 X mL0 1 (by decide) (v := .ref (K 0)) rfl mF rfl dL_isScript_220 ?_
                refine zz_bipush 223 X.1 (v := nI 6) dL_isScript_223 rfl ?_
                refine zz_iconst 225 X.1 (v := nI 1) dL_isScript_225 rfl ?_
                refine ll_callDi 226 X hml hAp (As := [.int (nI 6), .int (nI 1)]) (kt_X6_subtract_ok l D C K hAp.1 F8 hs9 G8 T4 6 1 (by first | rfl | assumption | omega) (by first | rfl | assumption | omega)) gL_isScript_X6_subtract rfl ⟨rfl, rfl⟩ yd_X6_subtract ⟨Nat.le_of_ble_eq_true rfl, Nat.le_of_ble_eq_true rfl⟩ rfl rfl (Nat.le_of_ble_eq_true rfl) ⟨Nat.le_of_ble_eq_true rfl, Nat.le_of_ble_eq_true rfl⟩ dL_isScript_226 ?_
                rintro r20 ⟨F20, hs20, G20, T20⟩ hu20
                obtain ⟨rfl, hv20⟩ := hu20
                cases hv20
                refine zz_world (P' := (LPo D C K kL kH (x3, (F8, (sS hs9 6 (fun i => pJ 33 (hM hs9 6 i) (hM hs9 1 i))), G8, T4), b))) (fun _ h => h) ?_
                obtain ⟨hs21, eh21⟩ : ∃ h, h = sS hs9 6 (fun i => pJ 33 (hM hs9 6 i) (hM hs9 1 i)) := ⟨_, rfl⟩
                refine zz_world (P' := (LPo D C K kL kH (x3, (F8, hs21, G8, T4), b))) (lp_hs eh21.symm) ?_
                have g21_6 : ∀ i, i < 1024 → hM hs21 6 i = (pJ 33 ((hM hs 0 i)) (hM hs 1 i)) := fun i hi => (by rw [eh21]; exact hM_sS hi : hM hs21 6 i = (fun i => pJ 33 (hM hs9 6 i) (hM hs9 1 i)) i).trans ((fun i hi => cg2 (g9_6 i hi) (g9_1 i hi)) i hi)
                have g21_0 : ∀ i, i < 1024 → hM hs21 0 i = (hM hs 0 i) := fun i hi => (by rw [eh21]; exact hM_sSo (by omega) hi : hM hs21 0 i = hM hs9 0 i).trans (g9_0 i hi)
                have g21_1 : ∀ i, i < 1024 → hM hs21 1 i = (hM hs 1 i) := fun i hi => (by rw [eh21]; exact hM_sSo (by omega) hi : hM hs21 1 i = hM hs9 1 i).trans (g9_1 i hi)
                have g21_5 : ∀ i, i < 1024 → hM hs21 5 i = (p1 (pX (fun j => pJ sg (hM hs 0 j) (hM hs 1 j)) f9 o9) q9 true i) := fun i hi => (by rw [eh21]; exact hM_sSo (by omega) hi : hM hs21 5 i = hM hs9 5 i).trans (g9_5 i hi)
                have rd21 : RD hs21 b := eh21 ▸ RD_sS rd9 (by omega)
                refine zz_topi (nI (ct (fun i => pJ 33 ((hM hs 0 i)) (hM hs 1 i)) 1024)) (congrArg nI (ct_cong (fun i hi => cg2 (g9_6 i hi) (g9_1 i hi)))) ?_
                refine zz_lvs [6, 4, 3, 2] rfl ?_
                exact C229 hs21 (ct (fun i => pJ 33 ((hM hs 0 i)) (hM hs 1 i)) 1024) (ct_le _ _) (g21_5) (fun i hi => by rw [show sg = 33 by omega]; exact g21_6 i hi) (rd21)
              · skip
                refine zz_aload_n 206 X.1 6 dL_isScript_206 rfl ?_
                refine ll_get 207 X mL0 1 (by decide) (v := .ref (K 0)) rfl mF rfl dL_isScript_207 ?_
                refine zz_bipush 210 X.1 (v := nI 6) dL_isScript_210 rfl ?_
                refine zz_iconst 212 X.1 (v := nI 1) dL_isScript_212 rfl ?_
                refine ll_callDi 213 X hml hAp (As := [.int (nI 6), .int (nI 1)]) (kt_X6_differ_ok l D C K hAp.1 F8 hs9 G8 T4 6 1 (by first | rfl | assumption | omega) (by first | rfl | assumption | omega)) gL_isScript_X6_differ rfl ⟨rfl, rfl⟩ yd_X6_differ ⟨Nat.le_of_ble_eq_true rfl, Nat.le_of_ble_eq_true rfl⟩ rfl rfl (Nat.le_of_ble_eq_true rfl) ⟨Nat.le_of_ble_eq_true rfl, Nat.le_of_ble_eq_true rfl⟩ dL_isScript_213 ?_
                rintro r22 ⟨F22, hs22, G22, T22⟩ hu22
                obtain ⟨rfl, hv22⟩ := hu22
                cases hv22
                refine zz_world (P' := (LPo D C K kL kH (x3, (F8, (sS hs9 6 (fun i => pJ 126 (hM hs9 6 i) (hM hs9 1 i))), G8, T4), b))) (fun _ h => h) ?_
                obtain ⟨hs23, eh23⟩ : ∃ h, h = sS hs9 6 (fun i => pJ 126 (hM hs9 6 i) (hM hs9 1 i)) := ⟨_, rfl⟩
                refine zz_world (P' := (LPo D C K kL kH (x3, (F8, hs23, G8, T4), b))) (lp_hs eh23.symm) ?_
                have g23_6 : ∀ i, i < 1024 → hM hs23 6 i = (pJ 126 ((hM hs 0 i)) (hM hs 1 i)) := fun i hi => (by rw [eh23]; exact hM_sS hi : hM hs23 6 i = (fun i => pJ 126 (hM hs9 6 i) (hM hs9 1 i)) i).trans ((fun i hi => cg2 (g9_6 i hi) (g9_1 i hi)) i hi)
                have g23_0 : ∀ i, i < 1024 → hM hs23 0 i = (hM hs 0 i) := fun i hi => (by rw [eh23]; exact hM_sSo (by omega) hi : hM hs23 0 i = hM hs9 0 i).trans (g9_0 i hi)
                have g23_1 : ∀ i, i < 1024 → hM hs23 1 i = (hM hs 1 i) := fun i hi => (by rw [eh23]; exact hM_sSo (by omega) hi : hM hs23 1 i = hM hs9 1 i).trans (g9_1 i hi)
                have g23_5 : ∀ i, i < 1024 → hM hs23 5 i = (p1 (pX (fun j => pJ sg (hM hs 0 j) (hM hs 1 j)) f9 o9) q9 true i) := fun i hi => (by rw [eh23]; exact hM_sSo (by omega) hi : hM hs23 5 i = hM hs9 5 i).trans (g9_5 i hi)
                have rd23 : RD hs23 b := eh23 ▸ RD_sS rd9 (by omega)
                refine zz_topi (nI (ct (fun i => pJ 126 ((hM hs 0 i)) (hM hs 1 i)) 1024)) (congrArg nI (ct_cong (fun i hi => cg2 (g9_6 i hi) (g9_1 i hi)))) ?_
                refine zz_goto 216 229 X.1 dL_isScript_216 (by decide) ?_
                refine zz_lvs [6, 4, 3, 2] rfl ?_
                exact C229 hs23 (ct (fun i => pJ 126 ((hM hs 0 i)) (hM hs 1 i)) 1024) (ct_le _ _) (g23_5) (fun i hi => by rw [show sg = 126 by omega]; exact g23_6 i hi) (rd23)
            · skip
              refine zz_aload_n 186 X.1 6 dL_isScript_186 rfl ?_
              refine ll_get 187 X mL0 1 (by decide) (v := .ref (K 0)) rfl mF rfl dL_isScript_187 ?_
              refine zz_bipush 190 X.1 (v := nI 6) dL_isScript_190 rfl ?_
              refine zz_iconst 192 X.1 (v := nI 1) dL_isScript_192 rfl ?_
              refine ll_callDi 193 X hml hAp (As := [.int (nI 6), .int (nI 1)]) (kt_X6_unite_ok l D C K hAp.1 F8 hs9 G8 T4 6 1 (by first | rfl | assumption | omega) (by first | rfl | assumption | omega)) gL_isScript_X6_unite rfl ⟨rfl, rfl⟩ yd_X6_unite ⟨Nat.le_of_ble_eq_true rfl, Nat.le_of_ble_eq_true rfl⟩ rfl rfl (Nat.le_of_ble_eq_true rfl) ⟨Nat.le_of_ble_eq_true rfl, Nat.le_of_ble_eq_true rfl⟩ dL_isScript_193 ?_
              rintro r24 ⟨F24, hs24, G24, T24⟩ hu24
              obtain ⟨rfl, hv24⟩ := hu24
              cases hv24
              refine zz_world (P' := (LPo D C K kL kH (x3, (F8, (sS hs9 6 (fun i => pJ 124 (hM hs9 6 i) (hM hs9 1 i))), G8, T4), b))) (fun _ h => h) ?_
              obtain ⟨hs25, eh25⟩ : ∃ h, h = sS hs9 6 (fun i => pJ 124 (hM hs9 6 i) (hM hs9 1 i)) := ⟨_, rfl⟩
              refine zz_world (P' := (LPo D C K kL kH (x3, (F8, hs25, G8, T4), b))) (lp_hs eh25.symm) ?_
              have g25_6 : ∀ i, i < 1024 → hM hs25 6 i = (pJ 124 ((hM hs 0 i)) (hM hs 1 i)) := fun i hi => (by rw [eh25]; exact hM_sS hi : hM hs25 6 i = (fun i => pJ 124 (hM hs9 6 i) (hM hs9 1 i)) i).trans ((fun i hi => cg2 (g9_6 i hi) (g9_1 i hi)) i hi)
              have g25_0 : ∀ i, i < 1024 → hM hs25 0 i = (hM hs 0 i) := fun i hi => (by rw [eh25]; exact hM_sSo (by omega) hi : hM hs25 0 i = hM hs9 0 i).trans (g9_0 i hi)
              have g25_1 : ∀ i, i < 1024 → hM hs25 1 i = (hM hs 1 i) := fun i hi => (by rw [eh25]; exact hM_sSo (by omega) hi : hM hs25 1 i = hM hs9 1 i).trans (g9_1 i hi)
              have g25_5 : ∀ i, i < 1024 → hM hs25 5 i = (p1 (pX (fun j => pJ sg (hM hs 0 j) (hM hs 1 j)) f9 o9) q9 true i) := fun i hi => (by rw [eh25]; exact hM_sSo (by omega) hi : hM hs25 5 i = hM hs9 5 i).trans (g9_5 i hi)
              have rd25 : RD hs25 b := eh25 ▸ RD_sS rd9 (by omega)
              refine zz_topi (nI (ct (fun i => pJ 124 ((hM hs 0 i)) (hM hs 1 i)) 1024)) (congrArg nI (ct_cong (fun i hi => cg2 (g9_6 i hi) (g9_1 i hi)))) ?_
              refine zz_goto 196 229 X.1 dL_isScript_196 (by decide) ?_
              refine zz_lvs [6, 4, 3, 2] rfl ?_
              exact C229 hs25 (ct (fun i => pJ 124 ((hM hs 0 i)) (hM hs 1 i)) 1024) (ct_le _ _) (g25_5) (fun i hi => by rw [show sg = 124 by omega]; exact g25_6 i hi) (rd25)
          · skip
            refine zz_aload_n 166 X.1 6 dL_isScript_166 rfl ?_
            refine ll_get 167 X mL0 1 (by decide) (v := .ref (K 0)) rfl mF rfl dL_isScript_167 ?_
            refine zz_bipush 170 X.1 (v := nI 6) dL_isScript_170 rfl ?_
            refine zz_iconst 172 X.1 (v := nI 1) dL_isScript_172 rfl ?_
            refine ll_callDi 173 X hml hAp (As := [.int (nI 6), .int (nI 1)]) (kt_X6_intersect_ok l D C K hAp.1 F8 hs9 G8 T4 6 1 (by first | rfl | assumption | omega) (by first | rfl | assumption | omega)) gL_isScript_X6_intersect rfl ⟨rfl, rfl⟩ yd_X6_intersect ⟨Nat.le_of_ble_eq_true rfl, Nat.le_of_ble_eq_true rfl⟩ rfl rfl (Nat.le_of_ble_eq_true rfl) ⟨Nat.le_of_ble_eq_true rfl, Nat.le_of_ble_eq_true rfl⟩ dL_isScript_173 ?_
            rintro r26 ⟨F26, hs26, G26, T26⟩ hu26
            obtain ⟨rfl, hv26⟩ := hu26
            cases hv26
            refine zz_world (P' := (LPo D C K kL kH (x3, (F8, (sS hs9 6 (fun i => pJ 38 (hM hs9 6 i) (hM hs9 1 i))), G8, T4), b))) (fun _ h => h) ?_
            obtain ⟨hs27, eh27⟩ : ∃ h, h = sS hs9 6 (fun i => pJ 38 (hM hs9 6 i) (hM hs9 1 i)) := ⟨_, rfl⟩
            refine zz_world (P' := (LPo D C K kL kH (x3, (F8, hs27, G8, T4), b))) (lp_hs eh27.symm) ?_
            have g27_6 : ∀ i, i < 1024 → hM hs27 6 i = (pJ 38 ((hM hs 0 i)) (hM hs 1 i)) := fun i hi => (by rw [eh27]; exact hM_sS hi : hM hs27 6 i = (fun i => pJ 38 (hM hs9 6 i) (hM hs9 1 i)) i).trans ((fun i hi => cg2 (g9_6 i hi) (g9_1 i hi)) i hi)
            have g27_0 : ∀ i, i < 1024 → hM hs27 0 i = (hM hs 0 i) := fun i hi => (by rw [eh27]; exact hM_sSo (by omega) hi : hM hs27 0 i = hM hs9 0 i).trans (g9_0 i hi)
            have g27_1 : ∀ i, i < 1024 → hM hs27 1 i = (hM hs 1 i) := fun i hi => (by rw [eh27]; exact hM_sSo (by omega) hi : hM hs27 1 i = hM hs9 1 i).trans (g9_1 i hi)
            have g27_5 : ∀ i, i < 1024 → hM hs27 5 i = (p1 (pX (fun j => pJ sg (hM hs 0 j) (hM hs 1 j)) f9 o9) q9 true i) := fun i hi => (by rw [eh27]; exact hM_sSo (by omega) hi : hM hs27 5 i = hM hs9 5 i).trans (g9_5 i hi)
            have rd27 : RD hs27 b := eh27 ▸ RD_sS rd9 (by omega)
            refine zz_topi (nI (ct (fun i => pJ 38 ((hM hs 0 i)) (hM hs 1 i)) 1024)) (congrArg nI (ct_cong (fun i hi => cg2 (g9_6 i hi) (g9_1 i hi)))) ?_
            refine zz_goto 176 229 X.1 dL_isScript_176 (by decide) ?_
            refine zz_lvs [6, 4, 3, 2] rfl ?_
            exact C229 hs27 (ct (fun i => pJ 38 ((hM hs 0 i)) (hM hs 1 i)) 1024) (ct_le _ _) (g27_5) (fun i hi => by rw [show sg = 38 by omega]; exact g27_6 i hi) (rd27)
        · exfalso; omega
