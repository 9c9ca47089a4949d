abbrev rm_L_isPart : Room := { frames := 10, cells := 0, slots := 0, locals := 182 }
theorem yd_L_isPart : yL_isPart.cls = RL ∧ yL_isPart.cls ≠ "java/lang/invoke/MethodHandle" ∧ yL_isPart.cls ≠ "java/lang/invoke/VarHandle" ∧ (parseMethodDescriptor yL_isPart.desc).map (fun d => d.parameters.length) = some 0 := by decide +kernel
set_option maxHeartbeats 4000000 in
set_option maxRecDepth 100000 in
theorem kt_L_isPart (l : Launch) (D : va_G) (C : Nat → ClassId) (K : Nat → Nat) (kL kH : Nat) (ad : Nat → Nat) (hAp : LAp K kL kH) (x : Int32) (F : Nat → Int32) (hs : Nat → Bool) (G T : Nat → Nat → Int32) (b : Nat → Bool)  (hrd : RD hs b) : LMi l yL_isPart wsL_isPart rm_L_isPart D C K kL kH ad 0 0 [] x F hs G T b (fun (r : Int32) (q : LSt) => ∃ (hs1 : Nat → Bool) (x1 : Int32), r = (bI true) ∧ q = (x1, (F, hs1, G, T), b) ∧ RD hs1 b) := by
  refine LMi_of (lv := [(0, .ref kL)]) (cc := cL_isPart) (maxL := 6) (ret := (some .boolean)) rfl (by decide +kernel) (Nat.le_of_ble_eq_true rfl) rfl ?_
  intro p e s m args below meth c X hLA hml hr hlk
  generalize hQ : MQ below _ args s 0 0 _ = Q
  refine zz_aload_n 0 X.1 0 dL_isPart_0 rfl ?_
  refine ll_callLi 1 X hLA hml (As := []) (kt_L_number l D C K kL kH ad hAp x F hs G T b  ) gL_isPart_L_number rfl ⟨rfl, rfl⟩ yd_L_number ⟨Nat.le_of_ble_eq_true rfl, Nat.le_of_ble_eq_true rfl⟩ rfl rfl (Nat.le_of_ble_eq_true rfl) ⟨Nat.le_of_ble_eq_true rfl, Nat.le_of_ble_eq_true rfl⟩ dL_isPart_1 ?_
  rintro r1 ⟨x1, ⟨F1, hs1, G1, T1⟩, b1⟩ hu1
  obtain ⟨k1_1, x1_1, rfl, hv1, hf1_0⟩ := hu1
  cases hv1
  refine zz_world (P' := (LPo D C K kL kH (x1, (F, hs, G, T), b))) (fun _ h => h) ?_
  refine zz_istore_n 4 X.1 (lv' := [(1, .int (nI k1_1)), (0, .ref kL)]) dL_isPart_4 (by decide) rfl ?_
  refine zz_aload_n 5 X.1 1 dL_isPart_5 rfl ?_
  refine ll_callLi 6 X hLA hml (As := []) (kt_L_number l D C K kL kH ad hAp x1 F hs G T b  ) gL_isPart_L_number rfl ⟨rfl, rfl⟩ yd_L_number ⟨Nat.le_of_ble_eq_true rfl, Nat.le_of_ble_eq_true rfl⟩ rfl rfl (Nat.le_of_ble_eq_true rfl) ⟨Nat.le_of_ble_eq_true rfl, Nat.le_of_ble_eq_true rfl⟩ dL_isPart_6 ?_
  rintro r2 ⟨x2, ⟨F2, hs2, G2, T2⟩, b2⟩ hu2
  obtain ⟨k1_2, x1_2, rfl, hv2, hf2_0⟩ := hu2
  cases hv2
  refine zz_world (P' := (LPo D C K kL kH (x2, (F, hs, G, T), b))) (fun _ h => h) ?_
  refine zz_istore_n 9 X.1 (lv' := [(2, .int (nI k1_2)), (1, .int (nI k1_1)), (0, .ref kL)]) dL_isPart_9 (by decide) rfl ?_
  refine zz_iload_n 10 X.1 1 dL_isPart_10 rfl ?_
  refine zz_iload_n 11 X.1 0 dL_isPart_11 rfl ?_
  refine zz_mmin 12 X.1 hml X.2.2.1 ((X.2.1 _ (by decide +kernel))) ((X.2.1 _ (by decide +kernel))) ((X.2.1 _ (by decide +kernel))) ((X.2.1 _ (by decide +kernel))) (Nat.le_of_ble_eq_true rfl) (Nat.le_of_ble_eq_true rfl) (Nat.le_of_ble_eq_true rfl) (Nat.le_of_ble_eq_true rfl) (v := (nI (min k1_1 k1_2))) dL_isPart_12 (zi_of ((zi_min (nI_toInt (by omega)) (nI_toInt (by omega))).trans (by omega))) ?_
  refine zz_istore_n 15 X.1 (lv' := [(3, .int (nI (min k1_1 k1_2))), (2, .int (nI k1_2)), (1, .int (nI k1_1)), (0, .ref kL)]) dL_isPart_15 (by decide) rfl ?_
  refine zz_iload_n 16 X.1 2 dL_isPart_16 rfl ?_
  refine zz_iload_n 17 X.1 1 dL_isPart_17 rfl ?_
  refine zz_mmax 18 X.1 hml X.2.2.1 ((X.2.1 _ (by decide +kernel))) ((X.2.1 _ (by decide +kernel))) ((X.2.1 _ (by decide +kernel))) ((X.2.1 _ (by decide +kernel))) (Nat.le_of_ble_eq_true rfl) (Nat.le_of_ble_eq_true rfl) (Nat.le_of_ble_eq_true rfl) (Nat.le_of_ble_eq_true rfl) (v := (nI (max k1_1 k1_2))) dL_isPart_18 (zi_of ((zi_max (nI_toInt (by omega)) (nI_toInt (by omega))).trans (by omega))) ?_
  refine zz_istore 21 X.1 (lv' := [(4, .int (nI (max k1_1 k1_2))), (3, .int (nI (min k1_1 k1_2))), (2, .int (nI k1_2)), (1, .int (nI k1_1)), (0, .ref kL)]) dL_isPart_21 (by decide) rfl ?_
  have hft : min k1_1 k1_2 ≤ max k1_1 k1_2 := by omega
  have ht4 : max k1_1 k1_2 ≤ 1024 := by omega
  have e0 := ct_pT (q := hM hs 0) hft ht4
  have e1 := ln_pT (q := hM hs 0) (f := min k1_1 k1_2) ht4
  have e2 : ct (pH (pT (hM hs 0) (min k1_1 k1_2) (max k1_1 k1_2)) ((min k1_1 k1_2 : Nat) : Int)) 1024 = ct (pC (hM hs 0) (min k1_1 k1_2) (max k1_1 k1_2)) 1024 := ct_cong (pH_pT ht4)
  have e3 := ct_rng hft ht4
  have e4 : ct (fun i => pJ 38 (pR (fun _ => false) (min k1_1 k1_2) (max k1_1 k1_2) true i) (hM hs 0 i)) 1024 = ct (pC (hM hs 0) (min k1_1 k1_2) (max k1_1 k1_2)) 1024 := ct_cong pR_pC
  refine zz_aload_n 23 X.1 4 dL_isPart_23 rfl ?_
  refine ll_get 24 X (by decide +kernel) 1 (by decide) (v := .ref (K 0)) rfl (by decide +kernel) rfl dL_isPart_24 ?_
  refine zz_iconst 27 X.1 (v := nI 5) dL_isPart_27 rfl ?_
  refine zz_iconst 28 X.1 (v := nI 0) dL_isPart_28 rfl ?_
  refine zz_iload_n 29 X.1 1 dL_isPart_29 rfl ?_
  refine zz_iload 30 X.1 0 dL_isPart_30 rfl ?_
  refine ll_callDi 32 X hml hAp (As := [.int (nI 5), .int (nI 0), .int (nI (min k1_1 k1_2)), .int (nI (max k1_1 k1_2))]) (kt_X6_takePart_ok l D C K hAp.1 F hs G T 5 0 (min k1_1 k1_2) (max k1_1 k1_2) (by first | rfl | assumption | omega) (by first | rfl | assumption | omega) (by first | rfl | assumption | omega)) gL_isPart_X6_takePart rfl ⟨rfl, rfl⟩ yd_X6_takePart ⟨Nat.le_of_ble_eq_true rfl, Nat.le_of_ble_eq_true rfl⟩ rfl rfl (Nat.le_of_ble_eq_true rfl) ⟨Nat.le_of_ble_eq_true rfl, Nat.le_of_ble_eq_true rfl⟩ dL_isPart_32 ?_
  rintro r3 ⟨F3, hs3, G3, T3⟩ hu3
  obtain ⟨rfl, hv3⟩ := hu3
  cases hv3
  refine zz_world (P' := (LPo D C K kL kH (x2, (F, (sS hs 5 (pT (hM hs 0) (min k1_1 k1_2) (max k1_1 k1_2))), G, T), b))) (fun _ h => h) ?_
  obtain ⟨hs4, eh4⟩ : ∃ h, h = sS hs 5 (pT (hM hs 0) (min k1_1 k1_2) (max k1_1 k1_2)) := ⟨_, rfl⟩
  refine zz_world (P' := (LPo D C K kL kH (x2, (F, hs4, G, T), b))) (lp_hs eh4.symm) ?_
  have g4_5 : ∀ i, i < 1024 → hM hs4 5 i = (pT (hM hs 0) (min k1_1 k1_2) (max k1_1 k1_2) i) := fun i hi => (by rw [eh4]; exact hM_sS hi : hM hs4 5 i = (pT (hM hs 0) (min k1_1 k1_2) (max k1_1 k1_2)) i).trans ((pT_cong (fun _ _ => rfl)) i hi)
  have g4_0 : ∀ i, i < 1024 → hM hs4 0 i = (hM hs 0 i) := fun i hi => (by rw [eh4]; exact hM_sSo (by omega) hi : hM hs4 0 i = hM hs 0 i).trans ((fun _ _ => rfl) i hi)
  have g4_1 : ∀ i, i < 1024 → hM hs4 1 i = (hM hs 1 i) := fun i hi => (by rw [eh4]; exact hM_sSo (by omega) hi : hM hs4 1 i = hM hs 1 i).trans ((fun _ _ => rfl) i hi)
  have g4_2 : ∀ i, i < 1024 → hM hs4 2 i = (hM hs 2 i) := fun i hi => (by rw [eh4]; exact hM_sSo (by omega) hi : hM hs4 2 i = hM hs 2 i).trans ((fun _ _ => rfl) i hi)
  have rd4 : RD hs4 b := eh4 ▸ RD_sS hrd (by omega)
  refine zz_topi (nI (ct (pT (hM hs 0) (min k1_1 k1_2) (max k1_1 k1_2)) 1024)) (congrArg nI (ct_cong (pT_cong (fun _ _ => rfl)))) ?_
  refine zz_istore 35 X.1 (lv' := [(5, .int (nI (ct (pT (hM hs 0) (min k1_1 k1_2) (max k1_1 k1_2)) 1024))), (4, .int (nI (max k1_1 k1_2))), (3, .int (nI (min k1_1 k1_2))), (2, .int (nI k1_2)), (1, .int (nI k1_1)), (0, .ref kL)]) dL_isPart_35 (by decide) rfl ?_
  refine zz_iload 37 X.1 0 dL_isPart_37 rfl ?_
  refine zz_aload_n 39 X.1 5 dL_isPart_39 rfl ?_
  refine ll_get 40 X (by decide +kernel) 1 (by decide) (v := .ref (K 0)) rfl (by decide +kernel) rfl dL_isPart_40 ?_
  refine zz_iconst 43 X.1 (v := nI 0) dL_isPart_43 rfl ?_
  refine zz_iload_n 44 X.1 2 dL_isPart_44 rfl ?_
  refine zz_iload 45 X.1 1 dL_isPart_45 rfl ?_
  refine ll_callDi 47 X hml hAp (As := [.int (nI 0), .int (nI (min k1_1 k1_2)), .int (nI (max k1_1 k1_2))]) (kt_X6_countIn_ok l D C K hAp.1 F hs4 G T 0 (min k1_1 k1_2) (max k1_1 k1_2) (by first | rfl | assumption | omega) (by first | rfl | assumption | omega)) gL_isPart_X6_countIn rfl ⟨rfl, rfl⟩ yd_X6_countIn ⟨Nat.le_of_ble_eq_true rfl, Nat.le_of_ble_eq_true rfl⟩ rfl rfl (Nat.le_of_ble_eq_true rfl) ⟨Nat.le_of_ble_eq_true rfl, Nat.le_of_ble_eq_true rfl⟩ dL_isPart_47 ?_
  rintro r5 ⟨F5, hs5, G5, T5⟩ hu5
  obtain ⟨rfl, hv5⟩ := hu5
  cases hv5
  refine zz_world (P' := (LPo D C K kL kH (x2, (F, hs4, G, T), b))) (fun _ h => h) ?_
  have hcb6_0 := ct_le (pC (hM hs4 0) (min k1_1 k1_2) (max k1_1 k1_2)) 1024
  have hcb6_1 := ct_le (pT (hM hs 0) (min k1_1 k1_2) (max k1_1 k1_2)) 1024
  refine zz_icmp_ne 50 68 X.1 (nI_toInt (by omega)) (nI_toInt (by omega)) dL_isPart_50 (by decide) (fun h50 => ?_) (fun h50 => ?_)
  · exfalso; have q1 : ct (pC (hM hs4 0) (min k1_1 k1_2) (max k1_1 k1_2)) 1024 = ct (pC (hM hs 0) (min k1_1 k1_2) (max k1_1 k1_2)) 1024 := ct_cong (fun i hi => by unfold pC; rw [g4_0 i hi]); omega
  · skip
    refine zz_aload_n 53 X.1 5 dL_isPart_53 rfl ?_
    refine ll_get 54 X (by decide +kernel) 1 (by decide) (v := .ref (K 0)) rfl (by decide +kernel) rfl dL_isPart_54 ?_
    refine zz_iconst 57 X.1 (v := nI 5) dL_isPart_57 rfl ?_
    refine ll_callDi 58 X hml hAp (As := [.int (nI 5)]) (kt_X6_length_ok l D C K hAp.1 F hs4 G T 5 (by first | rfl | assumption | omega)) gL_isPart_X6_length rfl ⟨rfl, rfl⟩ yd_X6_length ⟨Nat.le_of_ble_eq_true rfl, Nat.le_of_ble_eq_true rfl⟩ rfl rfl (Nat.le_of_ble_eq_true rfl) ⟨Nat.le_of_ble_eq_true rfl, Nat.le_of_ble_eq_true rfl⟩ dL_isPart_58 ?_
    rintro r7 ⟨F7, hs7, G7, T7⟩ hu7
    obtain ⟨rfl, hv7⟩ := hu7
    cases hv7
    refine zz_world (P' := (LPo D C K kL kH (x2, (F, hs4, G, T), b))) (fun _ h => h) ?_
    refine zz_iload 61 X.1 1 dL_isPart_61 rfl ?_
    refine zz_iload_n 63 X.1 2 dL_isPart_63 rfl ?_
    refine zz_isub 64 X.1 (v := (nI ((max k1_1 k1_2) - (min k1_1 k1_2)))) dL_isPart_64 (pk_sub (by omega)) ?_
    have hcb8_0 := ln_le (hM hs4 5) 1024
    refine zz_icmp_le 65 70 X.1 (nI_toInt (by omega)) (nI_toInt (by omega)) dL_isPart_65 (by decide) (fun h65 => ?_) (fun h65 => ?_)
    · skip
      refine zz_iload_n 70 X.1 2 dL_isPart_70 rfl ?_
      refine zz_sipush 71 X.1 (v := nI 1024) dL_isPart_71 rfl ?_
      refine zz_icmp_ge 74 93 X.1 (nI_toInt (by omega)) (nI_toInt (by omega)) dL_isPart_74 (by decide) (fun h74 => ?_) (fun h74 => ?_)
      · skip
        refine zz_aload_n 93 X.1 5 dL_isPart_93 rfl ?_
        refine ll_get 94 X (by decide +kernel) 1 (by decide) (v := .ref (K 0)) rfl (by decide +kernel) rfl dL_isPart_94 ?_
        refine zz_bipush 97 X.1 (v := nI 6) dL_isPart_97 rfl ?_
        refine ll_callDi 99 X hml hAp (As := [.int (nI 6)]) (kt_X6_removeAll_ok l D C K hAp.1 F hs4 G T 6 (by first | rfl | assumption | omega)) gL_isPart_X6_removeAll rfl ⟨rfl, rfl⟩ yd_X6_removeAll ⟨Nat.le_of_ble_eq_true rfl, Nat.le_of_ble_eq_true rfl⟩ rfl rfl (Nat.le_of_ble_eq_true rfl) ⟨Nat.le_of_ble_eq_true rfl, Nat.le_of_ble_eq_true rfl⟩ dL_isPart_99 ?_
        rintro r9 ⟨F9, hs9, G9, T9⟩ hu9
        obtain ⟨rfl, hv9⟩ := hu9
        cases hv9
        refine zz_world (P' := (LPo D C K kL kH (x2, (F, (sS hs4 6 (fun _ => false)), G, T), b))) (fun _ h => h) ?_
        obtain ⟨hs10, eh10⟩ : ∃ h, h = sS hs4 6 (fun _ => false) := ⟨_, rfl⟩
        refine zz_world (P' := (LPo D C K kL kH (x2, (F, hs10, G, T), b))) (lp_hs eh10.symm) ?_
        have g10_6 : ∀ i, i < 1024 → hM hs10 6 i = (false) := fun i hi => (by rw [eh10]; exact hM_sS hi : hM hs10 6 i = (fun _ => false) i).trans ((fun _ _ => rfl) i hi)
        have g10_0 : ∀ i, i < 1024 → hM hs10 0 i = (hM hs 0 i) := fun i hi => (by rw [eh10]; exact hM_sSo (by omega) hi : hM hs10 0 i = hM hs4 0 i).trans (g4_0 i hi)
        have g10_1 : ∀ i, i < 1024 → hM hs10 1 i = (hM hs 1 i) := fun i hi => (by rw [eh10]; exact hM_sSo (by omega) hi : hM hs10 1 i = hM hs4 1 i).trans (g4_1 i hi)
        have g10_2 : ∀ i, i < 1024 → hM hs10 2 i = (hM hs 2 i) := fun i hi => (by rw [eh10]; exact hM_sSo (by omega) hi : hM hs10 2 i = hM hs4 2 i).trans (g4_2 i hi)
        have g10_5 : ∀ i, i < 1024 → hM hs10 5 i = (pT (hM hs 0) (min k1_1 k1_2) (max k1_1 k1_2) i) := fun i hi => (by rw [eh10]; exact hM_sSo (by omega) hi : hM hs10 5 i = hM hs4 5 i).trans (g4_5 i hi)
        have rd10 : RD hs10 b := eh10 ▸ RD_sS rd4 (by omega)
        refine zz_pop 102 X.1 dL_isPart_102 rfl ?_
        refine zz_aload_n 103 X.1 5 dL_isPart_103 rfl ?_
        refine ll_get 104 X (by decide +kernel) 1 (by decide) (v := .ref (K 0)) rfl (by decide +kernel) rfl dL_isPart_104 ?_
        refine zz_bipush 107 X.1 (v := nI 6) dL_isPart_107 rfl ?_
        refine zz_iload_n 109 X.1 2 dL_isPart_109 rfl ?_
        refine zz_iload 110 X.1 1 dL_isPart_110 rfl ?_
        refine ll_callDi 112 X hml hAp (As := [.int (nI 6), .int (nI (min k1_1 k1_2)), .int (nI (max k1_1 k1_2))]) (kt_X6_addRange_ok l D C K hAp.1 F hs10 G T 6 (min k1_1 k1_2) (max k1_1 k1_2) (by first | rfl | assumption | omega) (by first | rfl | assumption | omega)) gL_isPart_X6_addRange rfl ⟨rfl, rfl⟩ yd_X6_addRange ⟨Nat.le_of_ble_eq_true rfl, Nat.le_of_ble_eq_true rfl⟩ rfl rfl (Nat.le_of_ble_eq_true rfl) ⟨Nat.le_of_ble_eq_true rfl, Nat.le_of_ble_eq_true rfl⟩ dL_isPart_112 ?_
        rintro r11 ⟨F11, hs11, G11, T11⟩ hu11
        obtain ⟨rfl, hv11⟩ := hu11
        cases hv11
        refine zz_world (P' := (LPo D C K kL kH (x2, (F, (sS hs10 6 (pR (hM hs10 6) (min k1_1 k1_2) (max k1_1 k1_2) true)), G, T), b))) (fun _ h => h) ?_
        obtain ⟨hs12, eh12⟩ : ∃ h, h = sS hs10 6 (pR (hM hs10 6) (min k1_1 k1_2) (max k1_1 k1_2) true) := ⟨_, rfl⟩
        refine zz_world (P' := (LPo D C K kL kH (x2, (F, hs12, G, T), b))) (lp_hs eh12.symm) ?_
        have g12_6 : ∀ i, i < 1024 → hM hs12 6 i = (pR (fun _ => false) (min k1_1 k1_2) (max k1_1 k1_2) true i) := fun i hi => (by rw [eh12]; exact hM_sS hi : hM hs12 6 i = (pR (hM hs10 6) (min k1_1 k1_2) (max k1_1 k1_2) true) i).trans ((pR_cong g10_6) i hi)
        have g12_0 : ∀ i, i < 1024 → hM hs12 0 i = (hM hs 0 i) := fun i hi => (by rw [eh12]; exact hM_sSo (by omega) hi : hM hs12 0 i = hM hs10 0 i).trans (g10_0 i hi)
        have g12_1 : ∀ i, i < 1024 → hM hs12 1 i = (hM hs 1 i) := fun i hi => (by rw [eh12]; exact hM_sSo (by omega) hi : hM hs12 1 i = hM hs10 1 i).trans (g10_1 i hi)
        have g12_2 : ∀ i, i < 1024 → hM hs12 2 i = (hM hs 2 i) := fun i hi => (by rw [eh12]; exact hM_sSo (by omega) hi : hM hs12 2 i = hM hs10 2 i).trans (g10_2 i hi)
        have g12_5 : ∀ i, i < 1024 → hM hs12 5 i = (pT (hM hs 0) (min k1_1 k1_2) (max k1_1 k1_2) i) := fun i hi => (by rw [eh12]; exact hM_sSo (by omega) hi : hM hs12 5 i = hM hs10 5 i).trans (g10_5 i hi)
        have rd12 : RD hs12 b := eh12 ▸ RD_sS rd10 (by omega)
        refine zz_topi (nI (ct (pR (fun _ => false) (min k1_1 k1_2) (max k1_1 k1_2) true) 1024)) (congrArg nI (ct_cong (pR_cong g10_6))) ?_
        refine zz_iload 115 X.1 1 dL_isPart_115 rfl ?_
        refine zz_iload_n 117 X.1 2 dL_isPart_117 rfl ?_
        refine zz_isub 118 X.1 (v := (nI ((max k1_1 k1_2) - (min k1_1 k1_2)))) dL_isPart_118 (pk_sub (by omega)) ?_
        have hcb13_0 := ct_le (pR (fun _ => false) (min k1_1 k1_2) (max k1_1 k1_2) true) 1024
        refine zz_icmp_ne 119 137 X.1 (nI_toInt (by omega)) (nI_toInt (by omega)) dL_isPart_119 (by decide) (fun h119 => ?_) (fun h119 => ?_)
        · exfalso; omega
        · skip
          refine zz_aload_n 122 X.1 5 dL_isPart_122 rfl ?_
          refine ll_get 123 X (by decide +kernel) 1 (by decide) (v := .ref (K 0)) rfl (by decide +kernel) rfl dL_isPart_123 ?_
          refine zz_bipush 126 X.1 (v := nI 6) dL_isPart_126 rfl ?_
          refine zz_iconst 128 X.1 (v := nI 0) dL_isPart_128 rfl ?_
          refine ll_callDi 129 X hml hAp (As := [.int (nI 6), .int (nI 0)]) (kt_X6_intersect_ok l D C K hAp.1 F hs12 G T 6 0 (by first | rfl | assumption | omega) (by first | rfl | assumption | omega)) gL_isPart_X6_intersect rfl ⟨rfl, rfl⟩ yd_X6_intersect ⟨Nat.le_of_ble_eq_true rfl, Nat.le_of_ble_eq_true rfl⟩ rfl rfl (Nat.le_of_ble_eq_true rfl) ⟨Nat.le_of_ble_eq_true rfl, Nat.le_of_ble_eq_true rfl⟩ dL_isPart_129 ?_
          rintro r14 ⟨F14, hs14, G14, T14⟩ hu14
          obtain ⟨rfl, hv14⟩ := hu14
          cases hv14
          refine zz_world (P' := (LPo D C K kL kH (x2, (F, (sS hs12 6 (fun i => pJ 38 (hM hs12 6 i) (hM hs12 0 i))), G, T), b))) (fun _ h => h) ?_
          obtain ⟨hs15, eh15⟩ : ∃ h, h = sS hs12 6 (fun i => pJ 38 (hM hs12 6 i) (hM hs12 0 i)) := ⟨_, rfl⟩
          refine zz_world (P' := (LPo D C K kL kH (x2, (F, hs15, G, T), b))) (lp_hs eh15.symm) ?_
          have g15_6 : ∀ i, i < 1024 → hM hs15 6 i = (pJ 38 (pR (fun _ => false) (min k1_1 k1_2) (max k1_1 k1_2) true i) (hM hs 0 i)) := fun i hi => (by rw [eh15]; exact hM_sS hi : hM hs15 6 i = (fun i => pJ 38 (hM hs12 6 i) (hM hs12 0 i)) i).trans ((fun i hi => cg2 (g12_6 i hi) (g12_0 i hi)) i hi)
          have g15_0 : ∀ i, i < 1024 → hM hs15 0 i = (hM hs 0 i) := fun i hi => (by rw [eh15]; exact hM_sSo (by omega) hi : hM hs15 0 i = hM hs12 0 i).trans (g12_0 i hi)
          have g15_1 : ∀ i, i < 1024 → hM hs15 1 i = (hM hs 1 i) := fun i hi => (by rw [eh15]; exact hM_sSo (by omega) hi : hM hs15 1 i = hM hs12 1 i).trans (g12_1 i hi)
          have g15_2 : ∀ i, i < 1024 → hM hs15 2 i = (hM hs 2 i) := fun i hi => (by rw [eh15]; exact hM_sSo (by omega) hi : hM hs15 2 i = hM hs12 2 i).trans (g12_2 i hi)
          have g15_5 : ∀ i, i < 1024 → hM hs15 5 i = (pT (hM hs 0) (min k1_1 k1_2) (max k1_1 k1_2) i) := fun i hi => (by rw [eh15]; exact hM_sSo (by omega) hi : hM hs15 5 i = hM hs12 5 i).trans (g12_5 i hi)
          have rd15 : RD hs15 b := eh15 ▸ RD_sS rd12 (by omega)
          refine zz_topi (nI (ct (fun i => pJ 38 (pR (fun _ => false) (min k1_1 k1_2) (max k1_1 k1_2) true i) (hM hs 0 i)) 1024)) (congrArg nI (ct_cong (fun i hi => cg2 (g12_6 i hi) (g12_0 i hi)))) ?_
          refine zz_iload 132 X.1 0 dL_isPart_132 rfl ?_
          have hcb16_0 := ct_le (fun i => pJ 38 (pR (fun _ => false) (min k1_1 k1_2) (max k1_1 k1_2) true i) (hM hs 0 i)) 1024
          have hcb16_1 := ct_le (pT (hM hs 0) (min k1_1 k1_2) (max k1_1 k1_2)) 1024
          refine zz_icmp_eq 134 139 X.1 (nI_toInt (by omega)) (nI_toInt (by omega)) dL_isPart_134 (by decide) (fun h134 => ?_) (fun h134 => ?_)
          · skip
            refine zz_iload_n 139 X.1 2 dL_isPart_139 rfl ?_
            refine zz_sipush 140 X.1 (v := nI 1024) dL_isPart_140 rfl ?_
            refine zz_icmp_eq 143 159 X.1 (nI_toInt (by omega)) (nI_toInt (by omega)) dL_isPart_143 (by decide) (fun h143 => ?_) (fun h143 => ?_)
            · skip
              refine zz_iconst 159 X.1 (v := nI 1) dL_isPart_159 rfl ?_
              refine zz_goto 160 164 X.1 dL_isPart_160 (by decide) ?_
              refine zz_topi (bI true) rfl ?_
              rw [← hQ]
              refine zz_iret 164 X.1 hr (bI_nar _) hlk (x2, (F, hs15, G, T), b) ?_ (fun _ h _ => h) dL_isPart_164
              exact ⟨_, _, rfl, rfl, rd15⟩
            · exfalso; omega
          · exfalso; omega
      · skip
        refine zz_aload_n 77 X.1 5 dL_isPart_77 rfl ?_
        refine ll_get 78 X (by decide +kernel) 1 (by decide) (v := .ref (K 0)) rfl (by decide +kernel) rfl dL_isPart_78 ?_
        refine zz_iconst 81 X.1 (v := nI 5) dL_isPart_81 rfl ?_
        refine zz_iload_n 82 X.1 2 dL_isPart_82 rfl ?_
        refine ll_callDi 83 X hml hAp (As := [.int (nI 5), .int (nI (min k1_1 k1_2))]) (kt_X6_shift_ok l D C K hAp.1 F hs4 G T 5 (nI (min k1_1 k1_2)) ((min k1_1 k1_2 : Nat) : Int) (nI_toInt (by omega)) (by first | rfl | assumption | omega) (by first | rfl | assumption | omega)) gL_isPart_X6_shift rfl ⟨rfl, rfl⟩ yd_X6_shift ⟨Nat.le_of_ble_eq_true rfl, Nat.le_of_ble_eq_true rfl⟩ rfl rfl (Nat.le_of_ble_eq_true rfl) ⟨Nat.le_of_ble_eq_true rfl, Nat.le_of_ble_eq_true rfl⟩ dL_isPart_83 ?_
        rintro r17 ⟨F17, hs17, G17, T17⟩ hu17
        obtain ⟨rfl, hv17⟩ := hu17
        cases hv17
        refine zz_world (P' := (LPo D C K kL kH (x2, (F, (sS hs4 5 (pH (hM hs4 5) ((min k1_1 k1_2 : Nat) : Int))), G, T), b))) (fun _ h => h) ?_
        obtain ⟨hs18, eh18⟩ : ∃ h, h = sS hs4 5 (pH (hM hs4 5) ((min k1_1 k1_2 : Nat) : Int)) := ⟨_, rfl⟩
        refine zz_world (P' := (LPo D C K kL kH (x2, (F, hs18, G, T), b))) (lp_hs eh18.symm) ?_
        have g18_5 : ∀ i, i < 1024 → hM hs18 5 i = (pH (pT (hM hs 0) (min k1_1 k1_2) (max k1_1 k1_2)) ((min k1_1 k1_2 : Nat) : Int) i) := fun i hi => (by rw [eh18]; exact hM_sS hi : hM hs18 5 i = (pH (hM hs4 5) ((min k1_1 k1_2 : Nat) : Int)) i).trans ((pH_cong g4_5) i hi)
        have g18_0 : ∀ i, i < 1024 → hM hs18 0 i = (hM hs 0 i) := fun i hi => (by rw [eh18]; exact hM_sSo (by omega) hi : hM hs18 0 i = hM hs4 0 i).trans (g4_0 i hi)
        have g18_1 : ∀ i, i < 1024 → hM hs18 1 i = (hM hs 1 i) := fun i hi => (by rw [eh18]; exact hM_sSo (by omega) hi : hM hs18 1 i = hM hs4 1 i).trans (g4_1 i hi)
        have g18_2 : ∀ i, i < 1024 → hM hs18 2 i = (hM hs 2 i) := fun i hi => (by rw [eh18]; exact hM_sSo (by omega) hi : hM hs18 2 i = hM hs4 2 i).trans (g4_2 i hi)
        have rd18 : RD hs18 b := eh18 ▸ RD_sS rd4 (by omega)
        refine zz_topi (nI (ct (pH (pT (hM hs 0) (min k1_1 k1_2) (max k1_1 k1_2)) ((min k1_1 k1_2 : Nat) : Int)) 1024)) (congrArg nI (ct_cong (pH_cong g4_5))) ?_
        refine zz_iload 86 X.1 0 dL_isPart_86 rfl ?_
        have hcb19_0 := ct_le (pH (pT (hM hs 0) (min k1_1 k1_2) (max k1_1 k1_2)) ((min k1_1 k1_2 : Nat) : Int)) 1024
        have hcb19_1 := ct_le (pT (hM hs 0) (min k1_1 k1_2) (max k1_1 k1_2)) 1024
        refine zz_icmp_eq 88 93 X.1 (nI_toInt (by omega)) (nI_toInt (by omega)) dL_isPart_88 (by decide) (fun h88 => ?_) (fun h88 => ?_)
        · skip
          refine zz_aload_n 93 X.1 5 dL_isPart_93 rfl ?_
          refine ll_get 94 X (by decide +kernel) 1 (by decide) (v := .ref (K 0)) rfl (by decide +kernel) rfl dL_isPart_94 ?_
          refine zz_bipush 97 X.1 (v := nI 6) dL_isPart_97 rfl ?_
          refine ll_callDi 99 X hml hAp (As := [.int (nI 6)]) (kt_X6_removeAll_ok l D C K hAp.1 F hs18 G T 6 (by first | rfl | assumption | omega)) gL_isPart_X6_removeAll rfl ⟨rfl, rfl⟩ yd_X6_removeAll ⟨Nat.le_of_ble_eq_true rfl, Nat.le_of_ble_eq_true rfl⟩ rfl rfl (Nat.le_of_ble_eq_true rfl) ⟨Nat.le_of_ble_eq_true rfl, Nat.le_of_ble_eq_true rfl⟩ dL_isPart_99 ?_
          rintro r20 ⟨F20, hs20, G20, T20⟩ hu20
          obtain ⟨rfl, hv20⟩ := hu20
          cases hv20
          refine zz_world (P' := (LPo D C K kL kH (x2, (F, (sS hs18 6 (fun _ => false)), G, T), b))) (fun _ h => h) ?_
          obtain ⟨hs21, eh21⟩ : ∃ h, h = sS hs18 6 (fun _ => false) := ⟨_, rfl⟩
          refine zz_world (P' := (LPo D C K kL kH (x2, (F, hs21, G, T), b))) (lp_hs eh21.symm) ?_
          have g21_6 : ∀ i, i < 1024 → hM hs21 6 i = (false) := fun i hi => (by rw [eh21]; exact hM_sS hi : hM hs21 6 i = (fun _ => false) i).trans ((fun _ _ => rfl) i hi)
          have g21_0 : ∀ i, i < 1024 → hM hs21 0 i = (hM hs 0 i) := fun i hi => (by rw [eh21]; exact hM_sSo (by omega) hi : hM hs21 0 i = hM hs18 0 i).trans (g18_0 i hi)
          have g21_1 : ∀ i, i < 1024 → hM hs21 1 i = (hM hs 1 i) := fun i hi => (by rw [eh21]; exact hM_sSo (by omega) hi : hM hs21 1 i = hM hs18 1 i).trans (g18_1 i hi)
          have g21_2 : ∀ i, i < 1024 → hM hs21 2 i = (hM hs 2 i) := fun i hi => (by rw [eh21]; exact hM_sSo (by omega) hi : hM hs21 2 i = hM hs18 2 i).trans (g18_2 i hi)
          have g21_5 : ∀ i, i < 1024 → hM hs21 5 i = (pH (pT (hM hs 0) (min k1_1 k1_2) (max k1_1 k1_2)) ((min k1_1 k1_2 : Nat) : Int) i) := fun i hi => (by rw [eh21]; exact hM_sSo (by omega) hi : hM hs21 5 i = hM hs18 5 i).trans (g18_5 i hi)
          have rd21 : RD hs21 b := eh21 ▸ RD_sS rd18 (by omega)
          refine zz_pop 102 X.1 dL_isPart_102 rfl ?_
          refine zz_aload_n 103 X.1 5 dL_isPart_103 rfl ?_
          refine ll_get 104 X (by decide +kernel) 1 (by decide) (v := .ref (K 0)) rfl (by decide +kernel) rfl dL_isPart_104 ?_
          refine zz_bipush 107 X.1 (v := nI 6) dL_isPart_107 rfl ?_
          refine zz_iload_n 109 X.1 2 dL_isPart_109 rfl ?_
          refine zz_iload 110 X.1 1 dL_isPart_110 rfl ?_
          refine ll_callDi 112 X hml hAp (As := [.int (nI 6), .int (nI (min k1_1 k1_2)), .int (nI (max k1_1 k1_2))]) (kt_X6_addRange_ok l D C K hAp.1 F hs21 G T 6 (min k1_1 k1_2) (max k1_1 k1_2) (by first | rfl | assumption | omega) (by first | rfl | assumption | omega)) gL_isPart_X6_addRange rfl ⟨rfl, rfl⟩ yd_X6_addRange ⟨Nat.le_of_ble_eq_true rfl, Nat.le_of_ble_eq_true rfl⟩ rfl rfl (Nat.le_of_ble_eq_true rfl) ⟨Nat.le_of_ble_eq_true rfl, Nat.le_of_ble_eq_true rfl⟩ dL_isPart_112 ?_
          rintro r22 ⟨F22, hs22, G22, T22⟩ hu22
          obtain ⟨rfl, hv22⟩ := hu22
          cases hv22
          refine zz_world (P' := (LPo D C K kL kH (x2, (F, (sS hs21 6 (pR (hM hs21 6) (min k1_1 k1_2) (max k1_1 k1_2) true)), G, T), b))) (fun _ h => h) ?_
          obtain ⟨hs23, eh23⟩ : ∃ h, h = sS hs21 6 (pR (hM hs21 6) (min k1_1 k1_2) (max k1_1 k1_2) true) := ⟨_, rfl⟩
          refine zz_world (P' := (LPo D C K kL kH (x2, (F, hs23, G, T), b))) (lp_hs eh23.symm) ?_
          have g23_6 : ∀ i, i < 1024 → hM hs23 6 i = (pR (fun _ => false) (min k1_1 k1_2) (max k1_1 k1_2) true i) := fun i hi => (by rw [eh23]; exact hM_sS hi : hM hs23 6 i = (pR (hM hs21 6) (min k1_1 k1_2) (max k1_1 k1_2) true) i).trans ((pR_cong g21_6) i hi)
          have g23_0 : ∀ i, i < 1024 → hM hs23 0 i = (hM hs 0 i) := fun i hi => (by rw [eh23]; exact hM_sSo (by omega) hi : hM hs23 0 i = hM hs21 0 i).trans (g21_0 i hi)
          have g23_1 : ∀ i, i < 1024 → hM hs23 1 i = (hM hs 1 i) := fun i hi => (by rw [eh23]; exact hM_sSo (by omega) hi : hM hs23 1 i = hM hs21 1 i).trans (g21_1 i hi)
          have g23_2 : ∀ i, i < 1024 → hM hs23 2 i = (hM hs 2 i) := fun i hi => (by rw [eh23]; exact hM_sSo (by omega) hi : hM hs23 2 i = hM hs21 2 i).trans (g21_2 i hi)
          have g23_5 : ∀ i, i < 1024 → hM hs23 5 i = (pH (pT (hM hs 0) (min k1_1 k1_2) (max k1_1 k1_2)) ((min k1_1 k1_2 : Nat) : Int) i) := fun i hi => (by rw [eh23]; exact hM_sSo (by omega) hi : hM hs23 5 i = hM hs21 5 i).trans (g21_5 i hi)
          have rd23 : RD hs23 b := eh23 ▸ RD_sS rd21 (by omega)
          refine zz_topi (nI (ct (pR (fun _ => false) (min k1_1 k1_2) (max k1_1 k1_2) true) 1024)) (congrArg nI (ct_cong (pR_cong g21_6))) ?_
          refine zz_iload 115 X.1 1 dL_isPart_115 rfl ?_
          refine zz_iload_n 117 X.1 2 dL_isPart_117 rfl ?_
          refine zz_isub 118 X.1 (v := (nI ((max k1_1 k1_2) - (min k1_1 k1_2)))) dL_isPart_118 (pk_sub (by omega)) ?_
          have hcb24_0 := ct_le (pR (fun _ => false) (min k1_1 k1_2) (max k1_1 k1_2) true) 1024
          refine zz_icmp_ne 119 137 X.1 (nI_toInt (by omega)) (nI_toInt (by omega)) dL_isPart_119 (by decide) (fun h119 => ?_) (fun h119 => ?_)
          · exfalso; omega
          · skip
            refine zz_aload_n 122 X.1 5 dL_isPart_122 rfl ?_
            refine ll_get 123 X (by decide +kernel) 1 (by decide) (v := .ref (K 0)) rfl (by decide +kernel) rfl dL_isPart_123 ?_
            refine zz_bipush 126 X.1 (v := nI 6) dL_isPart_126 rfl ?_
            refine zz_iconst 128 X.1 (v := nI 0) dL_isPart_128 rfl ?_
            refine ll_callDi 129 X hml hAp (As := [.int (nI 6), .int (nI 0)]) (kt_X6_intersect_ok l D C K hAp.1 F hs23 G T 6 0 (by first | rfl | assumption | omega) (by first | rfl | assumption | omega)) gL_isPart_X6_intersect rfl ⟨rfl, rfl⟩ yd_X6_intersect ⟨Nat.le_of_ble_eq_true rfl, Nat.le_of_ble_eq_true rfl⟩ rfl rfl (Nat.le_of_ble_eq_true rfl) ⟨Nat.le_of_ble_eq_true rfl, Nat.le_of_ble_eq_true rfl⟩ dL_isPart_129 ?_
            rintro r25 ⟨F25, hs25, G25, T25⟩ hu25
            obtain ⟨rfl, hv25⟩ := hu25
            cases hv25
            refine zz_world (P' := (LPo D C K kL kH (x2, (F, (sS hs23 6 (fun i => pJ 38 (hM hs23 6 i) (hM hs23 0 i))), G, T), b))) (fun _ h => h) ?_
            obtain ⟨hs26, eh26⟩ : ∃ h, h = sS hs23 6 (fun i => pJ 38 (hM hs23 6 i) (hM hs23 0 i)) := ⟨_, rfl⟩
            refine zz_world (P' := (LPo D C K kL kH (x2, (F, hs26, G, T), b))) (lp_hs eh26.symm) ?_
            have g26_6 : ∀ i, i < 1024 → hM hs26 6 i = (pJ 38 (pR (fun _ => false) (min k1_1 k1_2) (max k1_1 k1_2) true i) (hM hs 0 i)) := fun i hi => (by rw [eh26]; exact hM_sS hi : hM hs26 6 i = (fun i => pJ 38 (hM hs23 6 i) (hM hs23 0 i)) i).trans ((fun i hi => cg2 (g23_6 i hi) (g23_0 i hi)) i hi)
            have g26_0 : ∀ i, i < 1024 → hM hs26 0 i = (hM hs 0 i) := fun i hi => (by rw [eh26]; exact hM_sSo (by omega) hi : hM hs26 0 i = hM hs23 0 i).trans (g23_0 i hi)
            have g26_1 : ∀ i, i < 1024 → hM hs26 1 i = (hM hs 1 i) := fun i hi => (by rw [eh26]; exact hM_sSo (by omega) hi : hM hs26 1 i = hM hs23 1 i).trans (g23_1 i hi)
            have g26_2 : ∀ i, i < 1024 → hM hs26 2 i = (hM hs 2 i) := fun i hi => (by rw [eh26]; exact hM_sSo (by omega) hi : hM hs26 2 i = hM hs23 2 i).trans (g23_2 i hi)
            have g26_5 : ∀ i, i < 1024 → hM hs26 5 i = (pH (pT (hM hs 0) (min k1_1 k1_2) (max k1_1 k1_2)) ((min k1_1 k1_2 : Nat) : Int) i) := fun i hi => (by rw [eh26]; exact hM_sSo (by omega) hi : hM hs26 5 i = hM hs23 5 i).trans (g23_5 i hi)
            have rd26 : RD hs26 b := eh26 ▸ RD_sS rd23 (by omega)
            refine zz_topi (nI (ct (fun i => pJ 38 (pR (fun _ => false) (min k1_1 k1_2) (max k1_1 k1_2) true i) (hM hs 0 i)) 1024)) (congrArg nI (ct_cong (fun i hi => cg2 (g23_6 i hi) (g23_0 i hi)))) ?_
            refine zz_iload 132 X.1 0 dL_isPart_132 rfl ?_
            have hcb27_0 := ct_le (fun i => pJ 38 (pR (fun _ => false) (min k1_1 k1_2) (max k1_1 k1_2) true i) (hM hs 0 i)) 1024
            have hcb27_1 := ct_le (pT (hM hs 0) (min k1_1 k1_2) (max k1_1 k1_2)) 1024
            refine zz_icmp_eq 134 139 X.1 (nI_toInt (by omega)) (nI_toInt (by omega)) dL_isPart_134 (by decide) (fun h134 => ?_) (fun h134 => ?_)
            · skip
              refine zz_iload_n 139 X.1 2 dL_isPart_139 rfl ?_
              refine zz_sipush 140 X.1 (v := nI 1024) dL_isPart_140 rfl ?_
              refine zz_icmp_eq 143 159 X.1 (nI_toInt (by omega)) (nI_toInt (by omega)) dL_isPart_143 (by decide) (fun h143 => ?_) (fun h143 => ?_)
              · exfalso; omega
              · skip
                refine zz_aload_n 146 X.1 5 dL_isPart_146 rfl ?_
                refine ll_get 147 X (by decide +kernel) 1 (by decide) (v := .ref (K 0)) rfl (by decide +kernel) rfl dL_isPart_147 ?_
                refine zz_iconst 150 X.1 (v := nI 5) dL_isPart_150 rfl ?_
                refine zz_bipush 151 X.1 (v := nI 6) dL_isPart_151 rfl ?_
                refine ll_callDi 153 X hml hAp (As := [.int (nI 5), .int (nI 6)]) (kt_X6_areEqual_ok l D C K hAp.1 F hs26 G T 5 6 (by first | rfl | assumption | omega) (by first | rfl | assumption | omega)) gL_isPart_X6_areEqual rfl ⟨rfl, rfl⟩ yd_X6_areEqual ⟨Nat.le_of_ble_eq_true rfl, Nat.le_of_ble_eq_true rfl⟩ rfl rfl (Nat.le_of_ble_eq_true rfl) ⟨Nat.le_of_ble_eq_true rfl, Nat.le_of_ble_eq_true rfl⟩ dL_isPart_153 ?_
                rintro r28 ⟨F28, hs28, G28, T28⟩ hu28
                obtain ⟨rfl, hv28⟩ := hu28
                cases hv28
                refine zz_world (P' := (LPo D C K kL kH (x2, (F, hs26, G, T), b))) (fun _ h => h) ?_
                refine zz_ifB_eq 156 163 X.1 dL_isPart_156 (by decide) (fun h156 => ?_) (fun h156 => ?_)
                · exfalso; exact absurd ((eq_t (fun i hi => by rw [g26_5 i hi, g26_6 i hi]; exact (pH_pT ht4 i hi).trans (pR_pC i hi).symm)).symm.trans h156) (by decide)
                · skip
                  refine zz_iconst 159 X.1 (v := nI 1) dL_isPart_159 rfl ?_
                  refine zz_goto 160 164 X.1 dL_isPart_160 (by decide) ?_
                  refine zz_topi (bI true) rfl ?_
                  rw [← hQ]
                  refine zz_iret 164 X.1 hr (bI_nar _) hlk (x2, (F, hs26, G, T), b) ?_ (fun _ h _ => h) dL_isPart_164
                  exact ⟨_, _, rfl, rfl, rd26⟩
            · exfalso; omega
        · exfalso; omega
    · exfalso; have q1 := ln_cong g4_5; omega

abbrev rm_L_isBuilt : Room := { frames := 10, cells := 0, slots := 0, locals := 181 }
theorem yd_L_isBuilt : yL_isBuilt.cls = RL ∧ yL_isBuilt.cls ≠ "java/lang/invoke/MethodHandle" ∧ yL_isBuilt.cls ≠ "java/lang/invoke/VarHandle" ∧ (parseMethodDescriptor yL_isBuilt.desc).map (fun d => d.parameters.length) = some 1 := by decide +kernel
set_option maxHeartbeats 4000000 in
set_option maxRecDepth 100000 in
theorem kt_L_isBuilt (l : Launch) (D : va_G) (C : Nat → ClassId) (K : Nat → Nat) (kL kH : Nat) (ad : Nat → Nat) (hAp : LAp K kL kH) (x : Int32) (F : Nat → Int32) (hs : Nat → Bool) (G T : Nat → Nat → Int32) (b : Nat → Bool) (s0 : Nat) (hs0 : s0 < 3) (hrd : RD hs b) : LMi l yL_isBuilt wsL_isBuilt rm_L_isBuilt D C K kL kH ad 0 0 [.int (nI s0)] x F hs G T b (fun (r : Int32) (q : LSt) => ∃ (hs1 : Nat → Bool) (x1 : Int32), r = (bI true) ∧ q = (x1, (F, hs1, G, T), b) ∧ RD hs1 b) := by
  refine LMi_of (lv := [(0, .ref kL), (1, .int (nI s0))]) (cc := cL_isBuilt) (maxL := 6) (ret := (some .boolean)) rfl (by decide +kernel) (Nat.le_of_ble_eq_true rfl) rfl ?_
  intro p e s m args below meth c X hLA hml hr hlk
  generalize hQ : MQ below _ args s 0 0 _ = Q
  refine zz_aload_n 0 X.1 0 dL_isBuilt_0 rfl ?_
  refine ll_get 1 X (by decide +kernel) 1 (by decide) (v := .ref (K 0)) rfl (by decide +kernel) rfl dL_isBuilt_1 ?_
  refine zz_iconst 4 X.1 (v := nI 5) dL_isBuilt_4 rfl ?_
  refine zz_aload_n 5 X.1 0 dL_isBuilt_5 rfl ?_
  refine zz_sipush 6 X.1 (v := nI 1025) dL_isBuilt_6 rfl ?_
  refine ll_callLi 9 X hLA hml (As := [.int (nI 1025)]) (kt_L_next l D C K kL kH ad hAp x F hs G T b 1025 (by first | rfl | assumption | omega)) gL_isBuilt_L_next rfl ⟨rfl, rfl⟩ yd_L_next ⟨Nat.le_of_ble_eq_true rfl, Nat.le_of_ble_eq_true rfl⟩ rfl rfl (Nat.le_of_ble_eq_true rfl) ⟨Nat.le_of_ble_eq_true rfl, Nat.le_of_ble_eq_true rfl⟩ dL_isBuilt_9 ?_
  rintro r1 ⟨x1, ⟨F1, hs1, G1, T1⟩, b1⟩ hu1
  obtain ⟨k1_1, x1_1, rfl, hv1, hf1_0⟩ := hu1
  cases hv1
  refine zz_world (P' := (LPo D C K kL kH (x1, (F, hs, G, T), b))) (fun _ h => h) ?_
  refine ll_callDi 12 X hml hAp (As := [.int (nI 5), .int (nI k1_1)]) (kt_X6_renew_ok l D C K hAp.1 F hs G T 5 (nI k1_1) ((k1_1 : Nat) : Int) (nI_toInt (by omega)) (by first | rfl | assumption | omega) (by first | rfl | assumption | omega)) gL_isBuilt_X6_renew rfl ⟨rfl, rfl⟩ yd_X6_renew ⟨Nat.le_of_ble_eq_true rfl, Nat.le_of_ble_eq_true rfl⟩ rfl rfl (Nat.le_of_ble_eq_true rfl) ⟨Nat.le_of_ble_eq_true rfl, Nat.le_of_ble_eq_true rfl⟩ dL_isBuilt_12 ?_
  rintro r2 ⟨F2, hs2, G2, T2⟩ hu2
  obtain ⟨rfl, hv2⟩ := hu2
  cases hv2
  refine zz_world (P' := (LPo D C K kL kH (x1, (F, (sS hs 5 (fun _ => false)), G, T), b))) (fun _ h => h) ?_
  obtain ⟨hs3, eh3⟩ : ∃ h, h = sS hs 5 (fun _ => false) := ⟨_, rfl⟩
  refine zz_world (P' := (LPo D C K kL kH (x1, (F, hs3, G, T), b))) (lp_hs eh3.symm) ?_
  have g3_5 : ∀ i, i < 1024 → hM hs3 5 i = (false) := fun i hi => (by rw [eh3]; exact hM_sS hi : hM hs3 5 i = (fun _ => false) i).trans ((fun _ _ => rfl) i hi)
  have g3_s0 : ∀ i, i < 1024 → hM hs3 s0 i = (hM hs s0 i) := fun i hi => (by rw [eh3]; exact hM_sSo (by omega) hi : hM hs3 s0 i = hM hs s0 i).trans ((fun _ _ => rfl) i hi)
  have rd3 : RD hs3 b := eh3 ▸ RD_sS hrd (by omega)
  refine zz_pop 15 X.1 dL_isBuilt_15 rfl ?_
  refine zz_aload_n 16 X.1 0 dL_isBuilt_16 rfl ?_
  refine ll_get 17 X (by decide +kernel) 1 (by decide) (v := .ref (K 0)) rfl (by decide +kernel) rfl dL_isBuilt_17 ?_
  refine zz_iload_n 20 X.1 1 dL_isBuilt_20 rfl ?_
  refine ll_callDi 21 X hml hAp (As := [.int (nI s0)]) (kt_X6_wordCount_ok l D C K hAp.1 F hs3 G T s0 (by first | rfl | assumption | omega)) gL_isBuilt_X6_wordCount rfl ⟨rfl, rfl⟩ yd_X6_wordCount ⟨Nat.le_of_ble_eq_true rfl, Nat.le_of_ble_eq_true rfl⟩ rfl rfl (Nat.le_of_ble_eq_true rfl) ⟨Nat.le_of_ble_eq_true rfl, Nat.le_of_ble_eq_true rfl⟩ dL_isBuilt_21 ?_
  rintro r4 ⟨F4, hs4, G4, T4⟩ hu4
  obtain ⟨rfl, hv4⟩ := hu4
  cases hv4
  refine zz_world (P' := (LPo D C K kL kH (x1, (F, hs3, G, T), b))) (fun _ h => h) ?_
  refine zz_iconst 24 X.1 (v := nI 1) dL_isBuilt_24 rfl ?_
  refine zz_isub 25 X.1 (v := (nI ((ln (hM hs3 s0) 1024 + 63) / 64) - nI 1)) dL_isBuilt_25 rfl ?_
  have hl0 : ln (hM hs3 s0) 1024 = ln (hM hs s0) 1024 := ln_cong g3_s0
  have hl1 := ln_le (hM hs s0) 1024
  refine zz_istore_n 26 X.1 (lv' := [(2, .int (nI ((ln (hM hs3 s0) 1024 + 63) / 64) - nI 1)), (0, .ref kL), (1, .int (nI s0))]) dL_isBuilt_26 (by decide) rfl ?_
  have C27 : ∀ (d : Nat) (j : Nat) (x2 : Int32) (hs9 : Nat → Bool) (x9 : Int32) (hj : j ≤ (ln (hM hs s0) 1024 + 63) / 64) (hx : x2.toInt = (j : Int) - 1) (h5 : ∀ i, i < 1024 → hM hs9 5 i = (decide (64 * j ≤ i) && hM hs s0 i)) (hS : ∀ i, i < 1024 → hM hs9 s0 i = hM hs s0 i) (hrd9 : RD hs9 b) (hd : j < d), ZZ p l e rm_L_isBuilt s m args below meth c 0 0 Q (zz_A (LZ K kL kH) s.heap.size) (LPo D C K kL kH (x9, (F, hs9, G, T), b)) 6 [(0, .ref kL), (1, .int (nI s0)), (2, .int x2)] [] 27 := by
    intro d
    induction d with
    | zero => intro j x2 hs9 x9 hj hx h5 hS hrd9 hd; exact absurd hd (Nat.not_lt_zero _)
    | succ d ih27 =>
      intro j x2 hs9 x9 hj hx h5 hS hrd9 hd
      refine zz_iload_n 27 X.1 2 dL_isBuilt_27 rfl ?_
      refine zz_if_lt 28 159 X.1 rfl dL_isBuilt_28 (by decide) (fun h28 => ?_) (fun h28 => ?_)
      · skip
        obtain rfl : j = 0 := by omega
        have hl8 := ln_le (hM hs9 s0) 1024
        have g5 : ∀ i, i < 1024 → hM hs9 5 i = hM hs s0 i := fun i hi => (h5 i hi).trans (by simp)
        refine zz_aload_n 159 X.1 0 dL_isBuilt_159 rfl ?_
        refine ll_get 160 X (by decide +kernel) 1 (by decide) (v := .ref (K 0)) rfl (by decide +kernel) rfl dL_isBuilt_160 ?_
        refine zz_iconst 163 X.1 (v := nI 5) dL_isBuilt_163 rfl ?_
        refine zz_iload_n 164 X.1 1 dL_isBuilt_164 rfl ?_
        refine ll_callDi 165 X hml hAp (As := [.int (nI 5), .int (nI s0)]) (kt_X6_areEqual_ok l D C K hAp.1 F hs9 G T 5 s0 (by first | rfl | assumption | omega) (by first | rfl | assumption | omega)) gL_isBuilt_X6_areEqual rfl ⟨rfl, rfl⟩ yd_X6_areEqual ⟨Nat.le_of_ble_eq_true rfl, Nat.le_of_ble_eq_true rfl⟩ rfl rfl (Nat.le_of_ble_eq_true rfl) ⟨Nat.le_of_ble_eq_true rfl, Nat.le_of_ble_eq_true rfl⟩ dL_isBuilt_165 ?_
        rintro r5 ⟨F5, hs5, G5, T5⟩ hu5
        obtain ⟨rfl, hv5⟩ := hu5
        cases hv5
        refine zz_world (P' := (LPo D C K kL kH (x9, (F, hs9, G, T), b))) (fun _ h => h) ?_
        refine zz_ifB_eq 168 221 X.1 dL_isBuilt_168 (by decide) (fun h168 => ?_) (fun h168 => ?_)
        · exfalso; exact absurd ((eq_t (fun i hi => by rw [g5 i hi, hS i hi])).symm.trans h168) (by decide)
        · skip
          refine zz_aload_n 171 X.1 0 dL_isBuilt_171 rfl ?_
          refine ll_get 172 X (by decide +kernel) 1 (by decide) (v := .ref (K 0)) rfl (by decide +kernel) rfl dL_isBuilt_172 ?_
          refine zz_iload_n 175 X.1 1 dL_isBuilt_175 rfl ?_
          refine ll_callDi 176 X hml hAp (As := [.int (nI s0)]) (kt_X6_length_ok l D C K hAp.1 F hs9 G T s0 (by first | rfl | assumption | omega)) gL_isBuilt_X6_length rfl ⟨rfl, rfl⟩ yd_X6_length ⟨Nat.le_of_ble_eq_true rfl, Nat.le_of_ble_eq_true rfl⟩ rfl rfl (Nat.le_of_ble_eq_true rfl) ⟨Nat.le_of_ble_eq_true rfl, Nat.le_of_ble_eq_true rfl⟩ dL_isBuilt_176 ?_
          rintro r6 ⟨F6, hs6, G6, T6⟩ hu6
          obtain ⟨rfl, hv6⟩ := hu6
          cases hv6
          refine zz_world (P' := (LPo D C K kL kH (x9, (F, hs9, G, T), b))) (fun _ h => h) ?_
          refine zz_bipush 179 X.1 (v := nI 63) dL_isBuilt_179 rfl ?_
          refine zz_iadd 181 X.1 (v := (nI ((ln (hM hs9 s0) 1024) + 63))) dL_isBuilt_181 (nI_add _ _) ?_
          refine zz_bipush 182 X.1 (v := nI 64) dL_isBuilt_182 rfl ?_
          refine zz_idiv 184 X.1 (v := (nI (((ln (hM hs9 s0) 1024) + 63) / 64))) dL_isBuilt_184 (zn_ne0 (by omega) (by omega)) (pk_div (by omega) (by omega) (by omega)) ?_
          refine zz_aload_n 185 X.1 0 dL_isBuilt_185 rfl ?_
          refine ll_get 186 X (by decide +kernel) 1 (by decide) (v := .ref (K 0)) rfl (by decide +kernel) rfl dL_isBuilt_186 ?_
          refine zz_iload_n 189 X.1 1 dL_isBuilt_189 rfl ?_
          refine ll_callDi 190 X hml hAp (As := [.int (nI s0)]) (kt_X6_wordCount_ok l D C K hAp.1 F hs9 G T s0 (by first | rfl | assumption | omega)) gL_isBuilt_X6_wordCount rfl ⟨rfl, rfl⟩ yd_X6_wordCount ⟨Nat.le_of_ble_eq_true rfl, Nat.le_of_ble_eq_true rfl⟩ rfl rfl (Nat.le_of_ble_eq_true rfl) ⟨Nat.le_of_ble_eq_true rfl, Nat.le_of_ble_eq_true rfl⟩ dL_isBuilt_190 ?_
          rintro r7 ⟨F7, hs7, G7, T7⟩ hu7
          obtain ⟨rfl, hv7⟩ := hu7
          cases hv7
          refine zz_world (P' := (LPo D C K kL kH (x9, (F, hs9, G, T), b))) (fun _ h => h) ?_
          refine zz_icmp_ne 193 221 X.1 (nI_toInt (by omega)) (nI_toInt (by omega)) dL_isBuilt_193 (by decide) (fun h193 => ?_) (fun h193 => ?_)
          · exfalso; omega
          · skip
            refine zz_aload_n 196 X.1 0 dL_isBuilt_196 rfl ?_
            refine ll_get 197 X (by decide +kernel) 1 (by decide) (v := .ref (K 0)) rfl (by decide +kernel) rfl dL_isBuilt_197 ?_
            refine zz_iload_n 200 X.1 1 dL_isBuilt_200 rfl ?_
            refine ll_callDi 201 X hml hAp (As := [.int (nI s0)]) (kt_X6_length_ok l D C K hAp.1 F hs9 G T s0 (by first | rfl | assumption | omega)) gL_isBuilt_X6_length rfl ⟨rfl, rfl⟩ yd_X6_length ⟨Nat.le_of_ble_eq_true rfl, Nat.le_of_ble_eq_true rfl⟩ rfl rfl (Nat.le_of_ble_eq_true rfl) ⟨Nat.le_of_ble_eq_true rfl, Nat.le_of_ble_eq_true rfl⟩ dL_isBuilt_201 ?_
            rintro r8 ⟨F8, hs8, G8, T8⟩ hu8
            obtain ⟨rfl, hv8⟩ := hu8
            cases hv8
            refine zz_world (P' := (LPo D C K kL kH (x9, (F, hs9, G, T), b))) (fun _ h => h) ?_
            refine zz_bipush 204 X.1 (v := nI 7) dL_isBuilt_204 rfl ?_
            refine zz_iadd 206 X.1 (v := (nI ((ln (hM hs9 s0) 1024) + 7))) dL_isBuilt_206 (nI_add _ _) ?_
            refine zz_bipush 207 X.1 (v := nI 8) dL_isBuilt_207 rfl ?_
            refine zz_idiv 209 X.1 (v := (nI (((ln (hM hs9 s0) 1024) + 7) / 8))) dL_isBuilt_209 (zn_ne0 (by omega) (by omega)) (pk_div (by omega) (by omega) (by omega)) ?_
            refine zz_aload_n 210 X.1 0 dL_isBuilt_210 rfl ?_
            refine ll_get 211 X (by decide +kernel) 1 (by decide) (v := .ref (K 0)) rfl (by decide +kernel) rfl dL_isBuilt_211 ?_
            refine zz_iload_n 214 X.1 1 dL_isBuilt_214 rfl ?_
            refine ll_callDi 215 X hml hAp (As := [.int (nI s0)]) (kt_X6_byteCount_ok l D C K hAp.1 F hs9 G T s0 (by first | rfl | assumption | omega)) gL_isBuilt_X6_byteCount rfl ⟨rfl, rfl⟩ yd_X6_byteCount ⟨Nat.le_of_ble_eq_true rfl, Nat.le_of_ble_eq_true rfl⟩ rfl rfl (Nat.le_of_ble_eq_true rfl) ⟨Nat.le_of_ble_eq_true rfl, Nat.le_of_ble_eq_true rfl⟩ dL_isBuilt_215 ?_
            rintro r9 ⟨F9, hs9, G9, T9⟩ hu9
            obtain ⟨rfl, hv9⟩ := hu9
            cases hv9
            refine zz_world (P' := (LPo D C K kL kH (x9, (F, hs9, G, T), b))) (fun _ h => h) ?_
            refine zz_icmp_eq 218 223 X.1 (nI_toInt (by omega)) (nI_toInt (by omega)) dL_isBuilt_218 (by decide) (fun h218 => ?_) (fun h218 => ?_)
            · skip
              refine zz_aload_n 223 X.1 0 dL_isBuilt_223 rfl ?_
              refine ll_get 224 X (by decide +kernel) 1 (by decide) (v := .ref (K 0)) rfl (by decide +kernel) rfl dL_isBuilt_224 ?_
              refine zz_bipush 227 X.1 (v := nI 6) dL_isBuilt_227 rfl ?_
              refine ll_callDi 229 X hml hAp (As := [.int (nI 6)]) (kt_X6_removeAll_ok l D C K hAp.1 F hs9 G T 6 (by first | rfl | assumption | omega)) gL_isBuilt_X6_removeAll rfl ⟨rfl, rfl⟩ yd_X6_removeAll ⟨Nat.le_of_ble_eq_true rfl, Nat.le_of_ble_eq_true rfl⟩ rfl rfl (Nat.le_of_ble_eq_true rfl) ⟨Nat.le_of_ble_eq_true rfl, Nat.le_of_ble_eq_true rfl⟩ dL_isBuilt_229 ?_
              rintro r10 ⟨F10, hs10, G10, T10⟩ hu10
              obtain ⟨rfl, hv10⟩ := hu10
              cases hv10
              refine zz_world (P' := (LPo D C K kL kH (x9, (F, (sS hs9 6 (fun _ => false)), G, T), b))) (fun _ h => h) ?_
              obtain ⟨hs11, eh11⟩ : ∃ h, h = sS hs9 6 (fun _ => false) := ⟨_, rfl⟩
              refine zz_world (P' := (LPo D C K kL kH (x9, (F, hs11, G, T), b))) (lp_hs eh11.symm) ?_
              have g11_6 : ∀ i, i < 1024 → hM hs11 6 i = (false) := fun i hi => (by rw [eh11]; exact hM_sS hi : hM hs11 6 i = (fun _ => false) i).trans ((fun _ _ => rfl) i hi)
              have g11_5 : ∀ i, i < 1024 → hM hs11 5 i = (hM hs s0 i) := fun i hi => (by rw [eh11]; exact hM_sSo (by omega) hi : hM hs11 5 i = hM hs9 5 i).trans (g5 i hi)
              have g11_s0 : ∀ i, i < 1024 → hM hs11 s0 i = (hM hs s0 i) := fun i hi => (by rw [eh11]; exact hM_sSo (by omega) hi : hM hs11 s0 i = hM hs9 s0 i).trans (hS i hi)
              have rd11 : RD hs11 b := eh11 ▸ RD_sS hrd9 (by omega)
              refine zz_pop 232 X.1 dL_isBuilt_232 rfl ?_
              refine zz_iconst 233 X.1 (v := nI 0) dL_isBuilt_233 rfl ?_
              refine zz_topi (nI (ct (hM hs s0) 0)) (rfl) ?_
              refine zz_istore_n 234 X.1 (lv' := [(2, .int (nI (ct (hM hs s0) 0))), (0, .ref kL), (1, .int (nI s0))]) dL_isBuilt_234 (by decide) rfl ?_
              refine zz_iconst 235 X.1 (v := (-1)) dL_isBuilt_235 (by decide) ?_
              refine zz_topi ((nI (ln (hM hs s0) 0)) - 1) ((by decide : (-1 : Int32) = nI 0 - 1)) ?_
              refine zz_istore_n 236 X.1 (lv' := [(3, .int ((nI (ln (hM hs s0) 0)) - 1)), (2, .int (nI (ct (hM hs s0) 0))), (0, .ref kL), (1, .int (nI s0))]) dL_isBuilt_236 (by decide) rfl ?_
              refine zz_aload_n 237 X.1 2 dL_isBuilt_237 rfl ?_
              refine ll_get 238 X (by decide +kernel) 1 (by decide) (v := .ref (K 0)) rfl (by decide +kernel) rfl dL_isBuilt_238 ?_
              refine zz_iload_n 241 X.1 3 dL_isBuilt_241 rfl ?_
              refine zz_iconst 242 X.1 (v := nI 0) dL_isBuilt_242 rfl ?_
              refine ll_callDi 243 X hml hAp (As := [.int (nI s0), .int (nI 0)]) (kt_X6_next_ok l D C K hAp.1 F hs11 G T s0 0 (by first | rfl | assumption | omega) (by first | rfl | assumption | omega)) gL_isBuilt_X6_next rfl ⟨rfl, rfl⟩ yd_X6_next ⟨Nat.le_of_ble_eq_true rfl, Nat.le_of_ble_eq_true rfl⟩ rfl rfl (Nat.le_of_ble_eq_true rfl) ⟨Nat.le_of_ble_eq_true rfl, Nat.le_of_ble_eq_true rfl⟩ dL_isBuilt_243 ?_
              rintro r12 ⟨F12, hs12, G12, T12⟩ hu12
              obtain ⟨rfl, hv12⟩ := hu12
              cases hv12
              refine zz_world (P' := (LPo D C K kL kH (x9, (F, hs11, G, T), b))) (fun _ h => h) ?_
              refine zz_topi (nx (hM hs s0) 0) (nx_cong g11_s0 0) ?_
              refine zz_istore 246 X.1 (lv' := [(4, .int (nx (hM hs s0) 0)), (3, .int ((nI (ln (hM hs s0) 0)) - 1)), (2, .int (nI (ct (hM hs s0) 0))), (0, .ref kL), (1, .int (nI s0))]) dL_isBuilt_246 (by decide) rfl ?_
              have C248 : ∀ (d : Nat) (m0 : Nat) (hs9 : Nat → Bool) (hm0 : m0 ≤ 1024) (h6 : ∀ i, i < 1024 → hM hs9 6 i = (decide (i < m0) && hM hs s0 i)) (hS : ∀ i, i < 1024 → hM hs9 s0 i = hM hs s0 i) (hrd9 : RD hs9 b) (hd : 1024 - m0 < d), ZZ p l e rm_L_isBuilt s m args below meth c 0 0 Q (zz_A (LZ K kL kH) s.heap.size) (LPo D C K kL kH (x9, (F, hs9, G, T), b)) 6 [(0, .ref kL), (1, .int (nI s0)), (2, .int (nI (ct (hM hs s0) m0))), (3, .int ((nI (ln (hM hs s0) m0)) - 1)), (4, .int (nx (hM hs s0) m0))] [] 248 := by
                intro d
                induction d with
                | zero => intro m0 hs9 hm0 h6 hS hrd9 hd; exact absurd hd (Nat.not_lt_zero _)
                | succ d ih248 =>
                  intro m0 hs9 hm0 h6 hS hrd9 hd
                  refine zz_iload 248 X.1 4 dL_isBuilt_248 rfl ?_
                  refine zz_iconst 250 X.1 (v := (-1)) dL_isBuilt_250 (by decide) ?_
                  refine zz_icmp_eq 251 323 X.1 rfl (by decide : (-1 : Int32).toInt = -1) dL_isBuilt_251 (by decide) (fun h251 => ?_) (fun h251 => ?_)
                  · skip
                    have hno := nx_none (by omega : (nx (hM hs s0) m0).toInt = -1)
                    have hl9 : ln (hM hs s0) 1024 = ln (hM hs s0) m0 := ln_down hm0 hno
                    have hcl := ct_le (hM hs s0) m0
                    have hl8 := ln_le (hM hs9 s0) 1024
                    refine zz_aload_n 323 X.1 0 dL_isBuilt_323 rfl ?_
                    refine ll_get 324 X (by decide +kernel) 1 (by decide) (v := .ref (K 0)) rfl (by decide +kernel) rfl dL_isBuilt_324 ?_
                    refine zz_bipush 327 X.1 (v := nI 6) dL_isBuilt_327 rfl ?_
                    refine zz_iload_n 329 X.1 1 dL_isBuilt_329 rfl ?_
                    refine ll_callDi 330 X hml hAp (As := [.int (nI 6), .int (nI s0)]) (kt_X6_areEqual_ok l D C K hAp.1 F hs9 G T 6 s0 (by first | rfl | assumption | omega) (by first | rfl | assumption | omega)) gL_isBuilt_X6_areEqual rfl ⟨rfl, rfl⟩ yd_X6_areEqual ⟨Nat.le_of_ble_eq_true rfl, Nat.le_of_ble_eq_true rfl⟩ rfl rfl (Nat.le_of_ble_eq_true rfl) ⟨Nat.le_of_ble_eq_true rfl, Nat.le_of_ble_eq_true rfl⟩ dL_isBuilt_330 ?_
                    rintro r13 ⟨F13, hs13, G13, T13⟩ hu13
                    obtain ⟨rfl, hv13⟩ := hu13
                    cases hv13
                    refine zz_world (P' := (LPo D C K kL kH (x9, (F, hs9, G, T), b))) (fun _ h => h) ?_
                    refine zz_ifB_eq 333 385 X.1 dL_isBuilt_333 (by decide) (fun h333 => ?_) (fun h333 => ?_)
                    · exfalso; exact absurd ((eq_t (fun i hi => by rw [h6 i hi, hS i hi]; exact mem_all hno i hi)).symm.trans h333) (by decide)
                    · skip
                      refine zz_aload_n 336 X.1 0 dL_isBuilt_336 rfl ?_
                      refine ll_get 337 X (by decide +kernel) 1 (by decide) (v := .ref (K 0)) rfl (by decide +kernel) rfl dL_isBuilt_337 ?_
                      refine zz_iload_n 340 X.1 1 dL_isBuilt_340 rfl ?_
                      refine zz_iload_n 341 X.1 2 dL_isBuilt_341 rfl ?_
                      refine ll_callDi 342 X hml hAp (As := [.int (nI s0), .int (nI (ct (hM hs s0) m0))]) (kt_X6_memberAt_ok l D C K hAp.1 F hs9 G T s0 (nI (ct (hM hs s0) m0)) ((ct (hM hs s0) m0 : Nat) : Int) (nI_toInt (by omega)) (by first | rfl | assumption | omega)) gL_isBuilt_X6_memberAt rfl ⟨rfl, rfl⟩ yd_X6_memberAt ⟨Nat.le_of_ble_eq_true rfl, Nat.le_of_ble_eq_true rfl⟩ rfl rfl (Nat.le_of_ble_eq_true rfl) ⟨Nat.le_of_ble_eq_true rfl, Nat.le_of_ble_eq_true rfl⟩ dL_isBuilt_342 ?_
                      rintro r14 ⟨F14, hs14, G14, T14⟩ hu14
                      obtain ⟨rfl, hv14⟩ := hu14
                      cases hv14
                      refine zz_world (P' := (LPo D C K kL kH (x9, (F, hs9, G, T), b))) (fun _ h => h) ?_
                      refine zz_iconst 345 X.1 (v := (-1)) dL_isBuilt_345 (by decide) ?_
                      refine zz_icmp_ne 346 385 X.1 rfl (by decide : (-1 : Int32).toInt = -1) dL_isBuilt_346 (by decide) (fun h346 => ?_) (fun h346 => ?_)
                      · exfalso; exact h346 (by rw [mA_cong hS, mA_no hno]; rfl)
                      · skip
                        refine zz_iload_n 349 X.1 3 dL_isBuilt_349 rfl ?_
                        refine zz_aload_n 350 X.1 0 dL_isBuilt_350 rfl ?_
                        refine ll_get 351 X (by decide +kernel) 1 (by decide) (v := .ref (K 0)) rfl (by decide +kernel) rfl dL_isBuilt_351 ?_
                        refine zz_iload_n 354 X.1 1 dL_isBuilt_354 rfl ?_
                        refine ll_callDi 355 X hml hAp (As := [.int (nI s0)]) (kt_X6_length_ok l D C K hAp.1 F hs9 G T s0 (by first | rfl | assumption | omega)) gL_isBuilt_X6_length rfl ⟨rfl, rfl⟩ yd_X6_length ⟨Nat.le_of_ble_eq_true rfl, Nat.le_of_ble_eq_true rfl⟩ rfl rfl (Nat.le_of_ble_eq_true rfl) ⟨Nat.le_of_ble_eq_true rfl, Nat.le_of_ble_eq_true rfl⟩ dL_isBuilt_355 ?_
                        rintro r15 ⟨F15, hs15, G15, T15⟩ hu15
                        obtain ⟨rfl, hv15⟩ := hu15
                        cases hv15
                        refine zz_world (P' := (LPo D C K kL kH (x9, (F, hs9, G, T), b))) (fun _ h => h) ?_
                        refine zz_iconst 358 X.1 (v := nI 1) dL_isBuilt_358 rfl ?_
                        refine zz_isub 359 X.1 (v := (nI (ln (hM hs9 s0) 1024) - nI 1)) dL_isBuilt_359 rfl ?_
                        refine zz_topi ((nI (ln (hM hs s0) m0)) - 1) (by rw [ln_cong hS, hl9]; rfl) ?_
                        refine zz_icmp_ne 360 385 X.1 rfl rfl dL_isBuilt_360 (by decide) (fun h360 => ?_) (fun h360 => ?_)
                        · exfalso; exact h360 rfl
                        · skip
                          refine zz_aload_n 363 X.1 0 dL_isBuilt_363 rfl ?_
                          refine ll_get 364 X (by decide +kernel) 1 (by decide) (v := .ref (K 0)) rfl (by decide +kernel) rfl dL_isBuilt_364 ?_
                          refine zz_iload_n 367 X.1 1 dL_isBuilt_367 rfl ?_
                          refine zz_sipush 368 X.1 (v := nI 1024) dL_isBuilt_368 rfl ?_
                          refine zz_aload_n 371 X.1 0 dL_isBuilt_371 rfl ?_
                          refine zz_bipush 372 X.1 (v := nI 9) dL_isBuilt_372 rfl ?_
                          refine ll_callLi 374 X hLA hml (As := [.int (nI 9)]) (kt_L_next l D C K kL kH ad hAp x9 F hs9 G T b 9 (by first | rfl | assumption | omega)) gL_isBuilt_L_next rfl ⟨rfl, rfl⟩ yd_L_next ⟨Nat.le_of_ble_eq_true rfl, Nat.le_of_ble_eq_true rfl⟩ rfl rfl (Nat.le_of_ble_eq_true rfl) ⟨Nat.le_of_ble_eq_true rfl, Nat.le_of_ble_eq_true rfl⟩ dL_isBuilt_374 ?_
                          rintro r16 ⟨x16, ⟨F16, hs16, G16, T16⟩, b16⟩ hu16
                          obtain ⟨k1_16, x1_16, rfl, hv16, hf16_0⟩ := hu16
                          cases hv16
                          refine zz_world (P' := (LPo D C K kL kH (x16, (F, hs9, G, T), b))) (fun _ h => h) ?_
                          refine zz_iadd 377 X.1 (v := (nI (1024 + k1_16))) dL_isBuilt_377 (nI_add _ _) ?_
                          refine ll_callDi 378 X hml hAp (As := [.int (nI s0), .int (nI (1024 + k1_16))]) (kt_X6_previous_ok l D C K hAp.1 F hs9 G T s0 (nI (1024 + k1_16)) ((1024 + k1_16) + 1) ((1024 + k1_16 : Nat) : Int) (nI_toInt (by omega)) (by first | rfl | assumption | omega) (by omega)) gL_isBuilt_X6_previous rfl ⟨rfl, rfl⟩ yd_X6_previous ⟨Nat.le_of_ble_eq_true rfl, Nat.le_of_ble_eq_true rfl⟩ rfl rfl (Nat.le_of_ble_eq_true rfl) ⟨Nat.le_of_ble_eq_true rfl, Nat.le_of_ble_eq_true rfl⟩ dL_isBuilt_378 ?_
                          rintro r17 ⟨F17, hs17, G17, T17⟩ hu17
                          obtain ⟨rfl, hv17⟩ := hu17
                          cases hv17
                          refine zz_world (P' := (LPo D C K kL kH (x16, (F, hs9, G, T), b))) (fun _ h => h) ?_
                          refine zz_topi ((nI (ln (hM hs s0) 1024)) - 1) (by rw [show min ((1024 + k1_16) + 1) 1024 = 1024 by omega, ln_cong hS]) ?_
                          refine zz_iload_n 381 X.1 3 dL_isBuilt_381 rfl ?_
                          refine zz_icmp_eq 382 387 X.1 rfl rfl dL_isBuilt_382 (by decide) (fun h382 => ?_) (fun h382 => ?_)
                          · skip
                            refine zz_aload_n 387 X.1 0 dL_isBuilt_387 rfl ?_
                            refine ll_get 388 X (by decide +kernel) 1 (by decide) (v := .ref (K 0)) rfl (by decide +kernel) rfl dL_isBuilt_388 ?_
                            refine zz_iload_n 391 X.1 1 dL_isBuilt_391 rfl ?_
                            refine zz_aload_n 392 X.1 0 dL_isBuilt_392 rfl ?_
                            refine zz_sipush 393 X.1 (v := nI 1024) dL_isBuilt_393 rfl ?_
                            refine ll_callLi 396 X hLA hml (As := [.int (nI 1024)]) (kt_L_next l D C K kL kH ad hAp x16 F hs9 G T b 1024 (by first | rfl | assumption | omega)) gL_isBuilt_L_next rfl ⟨rfl, rfl⟩ yd_L_next ⟨Nat.le_of_ble_eq_true rfl, Nat.le_of_ble_eq_true rfl⟩ rfl rfl (Nat.le_of_ble_eq_true rfl) ⟨Nat.le_of_ble_eq_true rfl, Nat.le_of_ble_eq_true rfl⟩ dL_isBuilt_396 ?_
                            rintro r18 ⟨x18, ⟨F18, hs18, G18, T18⟩, b18⟩ hu18
                            obtain ⟨k1_18, x1_18, rfl, hv18, hf18_0⟩ := hu18
                            cases hv18
                            refine zz_world (P' := (LPo D C K kL kH (x18, (F, hs9, G, T), b))) (fun _ h => h) ?_
                            refine ll_callDi 399 X hml hAp (As := [.int (nI s0), .int (nI k1_18)]) (kt_X6_nextMissing_ok l D C K hAp.1 F hs9 G T s0 k1_18 (by first | rfl | assumption | omega) (by first | rfl | assumption | omega)) gL_isBuilt_X6_nextMissing rfl ⟨rfl, rfl⟩ yd_X6_nextMissing ⟨Nat.le_of_ble_eq_true rfl, Nat.le_of_ble_eq_true rfl⟩ rfl rfl (Nat.le_of_ble_eq_true rfl) ⟨Nat.le_of_ble_eq_true rfl, Nat.le_of_ble_eq_true rfl⟩ dL_isBuilt_399 ?_
                            rintro r19 ⟨F19, hs19, G19, T19⟩ hu19
                            obtain ⟨rfl, hv19⟩ := hu19
                            cases hv19
                            refine zz_world (P' := (LPo D C K kL kH (x18, (F, hs9, G, T), b))) (fun _ h => h) ?_
                            obtain ⟨fr, hfr⟩ : ∃ fr, fr = gm (hM hs s0) k1_18 := ⟨_, rfl⟩
                            refine zz_topi (nI fr) (congrArg nI ((gm_cong hS (by omega)).trans hfr.symm)) ?_
                            obtain ⟨hf1, hf2, hf3, hf4⟩ := gm_spec (q := (hM hs s0)) (i := k1_18) (by omega)
                            rw [← hfr] at hf1 hf2 hf3
                            refine zz_istore 402 X.1 (lv' := [(4, .int (nI fr)), (0, .ref kL), (1, .int (nI s0)), (2, .int (nI (ct (hM hs s0) m0))), (3, .int ((nI (ln (hM hs s0) m0)) - 1))]) dL_isBuilt_402 (by decide) rfl ?_
                            refine zz_aload_n 404 X.1 1 dL_isBuilt_404 rfl ?_
                            refine ll_get 405 X (by decide +kernel) 1 (by decide) (v := .ref (K 0)) rfl (by decide +kernel) rfl dL_isBuilt_405 ?_
                            refine zz_iload_n 408 X.1 2 dL_isBuilt_408 rfl ?_
                            refine zz_iload 409 X.1 0 dL_isBuilt_409 rfl ?_
                            refine ll_callDi 411 X hml hAp (As := [.int (nI s0), .int (nI fr)]) (kt_X6_has_ok l D C K hAp.1 F hs9 G T s0 fr (by first | rfl | assumption | omega) (by first | rfl | assumption | omega)) gL_isBuilt_X6_has rfl ⟨rfl, rfl⟩ yd_X6_has ⟨Nat.le_of_ble_eq_true rfl, Nat.le_of_ble_eq_true rfl⟩ rfl rfl (Nat.le_of_ble_eq_true rfl) ⟨Nat.le_of_ble_eq_true rfl, Nat.le_of_ble_eq_true rfl⟩ dL_isBuilt_411 ?_
                            rintro r20 ⟨F20, hs20, G20, T20⟩ hu20
                            obtain ⟨rfl, hv20⟩ := hu20
                            cases hv20
                            refine zz_world (P' := (LPo D C K kL kH (x18, (F, hs9, G, T), b))) (fun _ h => h) ?_
                            refine zz_ifB_ne 414 480 X.1 dL_isBuilt_414 (by decide) (fun h414 => ?_) (fun h414 => ?_)
                            · exfalso; exact absurd ((has_no hS hf3).symm.trans h414) (by decide)
                            · skip
                              refine zz_aload_n 417 X.1 1 dL_isBuilt_417 rfl ?_
                              refine ll_get 418 X (by decide +kernel) 1 (by decide) (v := .ref (K 0)) rfl (by decide +kernel) rfl dL_isBuilt_418 ?_
                              refine zz_iload_n 421 X.1 2 dL_isBuilt_421 rfl ?_
                              refine zz_iload 422 X.1 0 dL_isBuilt_422 rfl ?_
                              refine ll_callDi 424 X hml hAp (As := [.int (nI s0), .int (nI fr)]) (kt_X6_previousMissing_ok l D C K hAp.1 F hs9 G T s0 (nI fr) (fr + 1) ((fr : Nat) : Int) (nI_toInt (by omega)) (by first | rfl | assumption | omega) (by omega)) gL_isBuilt_X6_previousMissing rfl ⟨rfl, rfl⟩ yd_X6_previousMissing ⟨Nat.le_of_ble_eq_true rfl, Nat.le_of_ble_eq_true rfl⟩ rfl rfl (Nat.le_of_ble_eq_true rfl) ⟨Nat.le_of_ble_eq_true rfl, Nat.le_of_ble_eq_true rfl⟩ dL_isBuilt_424 ?_
                              rintro r21 ⟨F21, hs21, G21, T21⟩ hu21
                              obtain ⟨rfl, hv21⟩ := hu21
                              cases hv21
                              refine zz_world (P' := (LPo D C K kL kH (x18, (F, hs9, G, T), b))) (fun _ h => h) ?_
                              refine zz_iload 427 X.1 0 dL_isBuilt_427 rfl ?_
                              refine zz_icmp_ne 429 480 X.1 rfl (nI_toInt (by omega)) dL_isBuilt_429 (by decide) (fun h429 => ?_) (fun h429 => ?_)
                              · exfalso; exact h429 (by rw [pmv_cong hS, pmv_at hf2 hf3]; exact nI_toInt (by omega))
                              · skip
                                refine zz_iload 432 X.1 0 dL_isBuilt_432 rfl ?_
                                refine zz_if_eq 434 476 X.1 (nI_toInt (by omega)) dL_isBuilt_434 (by decide) (fun h434 => ?_) (fun h434 => ?_)
                                · skip
                                  refine zz_iconst 476 X.1 (v := nI 1) dL_isBuilt_476 rfl ?_
                                  refine zz_goto 477 481 X.1 dL_isBuilt_477 (by decide) ?_
                                  refine zz_topi (bI true) rfl ?_
                                  rw [← hQ]
                                  refine zz_iret 481 X.1 hr (bI_nar _) hlk (x18, (F, hs9, G, T), b) ?_ (fun _ h _ => h) dL_isBuilt_481
                                  exact ⟨_, _, rfl, rfl, hrd9⟩
                                · skip
                                  refine zz_aload_n 437 X.1 1 dL_isBuilt_437 rfl ?_
                                  refine ll_get 438 X (by decide +kernel) 1 (by decide) (v := .ref (K 0)) rfl (by decide +kernel) rfl dL_isBuilt_438 ?_
                                  refine zz_iload_n 441 X.1 2 dL_isBuilt_441 rfl ?_
                                  refine zz_iload 442 X.1 0 dL_isBuilt_442 rfl ?_
                                  refine zz_iconst 444 X.1 (v := nI 1) dL_isBuilt_444 rfl ?_
                                  refine zz_isub 445 X.1 (v := (nI (fr - 1))) dL_isBuilt_445 (pk_sub (by omega)) ?_
                                  refine ll_callDi 446 X hml hAp (As := [.int (nI s0), .int (nI (fr - 1))]) (kt_X6_nextMissing_ok l D C K hAp.1 F hs9 G T s0 (fr - 1) (by first | rfl | assumption | omega) (by first | rfl | assumption | omega)) gL_isBuilt_X6_nextMissing rfl ⟨rfl, rfl⟩ yd_X6_nextMissing ⟨Nat.le_of_ble_eq_true rfl, Nat.le_of_ble_eq_true rfl⟩ rfl rfl (Nat.le_of_ble_eq_true rfl) ⟨Nat.le_of_ble_eq_true rfl, Nat.le_of_ble_eq_true rfl⟩ dL_isBuilt_446 ?_
                                  rintro r22 ⟨F22, hs22, G22, T22⟩ hu22
                                  obtain ⟨rfl, hv22⟩ := hu22
                                  cases hv22
                                  refine zz_world (P' := (LPo D C K kL kH (x18, (F, hs9, G, T), b))) (fun _ h => h) ?_
                                  have hg9 := (gm_spec (q := hM hs9 s0) (i := fr - 1) (by omega)).2.1
                                  refine zz_aload_n 449 X.1 1 dL_isBuilt_449 rfl ?_
                                  refine ll_get 450 X (by decide +kernel) 1 (by decide) (v := .ref (K 0)) rfl (by decide +kernel) rfl dL_isBuilt_450 ?_
                                  refine zz_iload_n 453 X.1 2 dL_isBuilt_453 rfl ?_
                                  refine zz_iload 454 X.1 0 dL_isBuilt_454 rfl ?_
                                  refine zz_iconst 456 X.1 (v := nI 1) dL_isBuilt_456 rfl ?_
                                  refine zz_isub 457 X.1 (v := (nI (fr - 1))) dL_isBuilt_457 (pk_sub (by omega)) ?_
                                  refine ll_callDi 458 X hml hAp (As := [.int (nI s0), .int (nI (fr - 1))]) (kt_X6_has_ok l D C K hAp.1 F hs9 G T s0 (fr - 1) (by first | rfl | assumption | omega) (by first | rfl | assumption | omega)) gL_isBuilt_X6_has rfl ⟨rfl, rfl⟩ yd_X6_has ⟨Nat.le_of_ble_eq_true rfl, Nat.le_of_ble_eq_true rfl⟩ rfl rfl (Nat.le_of_ble_eq_true rfl) ⟨Nat.le_of_ble_eq_true rfl, Nat.le_of_ble_eq_true rfl⟩ dL_isBuilt_458 ?_
                                  rintro r23 ⟨F23, hs23, G23, T23⟩ hu23
                                  obtain ⟨rfl, hv23⟩ := hu23
                                  cases hv23
                                  refine zz_world (P' := (LPo D C K kL kH (x18, (F, hs9, G, T), b))) (fun _ h => h) ?_
                                  refine zz_ifB_eq 461 469 X.1 dL_isBuilt_461 (by decide) (fun h461 => ?_) (fun h461 => ?_)
                                  · skip
                                    refine zz_iload 469 X.1 0 dL_isBuilt_469 rfl ?_
                                    refine zz_iconst 471 X.1 (v := nI 1) dL_isBuilt_471 rfl ?_
                                    refine zz_isub 472 X.1 (v := (nI (fr - 1))) dL_isBuilt_472 (pk_sub (by omega)) ?_
                                    refine zz_icmp_ne 473 480 X.1 (nI_toInt (by omega)) (nI_toInt (by omega)) dL_isBuilt_473 (by decide) (fun h473 => ?_) (fun h473 => ?_)
                                    · exfalso; have e9 := gm_tern hS (f := fr) (by omega) hf2 hf3; rw [h461] at e9; first | (rw [if_pos rfl] at e9; omega) | (rw [if_neg (by decide)] at e9; omega)
                                    · skip
                                      refine zz_iconst 476 X.1 (v := nI 1) dL_isBuilt_476 rfl ?_
                                      refine zz_goto 477 481 X.1 dL_isBuilt_477 (by decide) ?_
                                      refine zz_topi (bI true) rfl ?_
                                      rw [← hQ]
                                      refine zz_iret 481 X.1 hr (bI_nar _) hlk (x18, (F, hs9, G, T), b) ?_ (fun _ h _ => h) dL_isBuilt_481
                                      exact ⟨_, _, rfl, rfl, hrd9⟩
                                  · skip
                                    refine zz_iload 464 X.1 0 dL_isBuilt_464 rfl ?_
                                    refine zz_goto 466 473 X.1 dL_isBuilt_466 (by decide) ?_
                                    refine zz_icmp_ne 473 480 X.1 (nI_toInt (by omega)) (nI_toInt (by omega)) dL_isBuilt_473 (by decide) (fun h473 => ?_) (fun h473 => ?_)
                                    · exfalso; have e9 := gm_tern hS (f := fr) (by omega) hf2 hf3; rw [h461] at e9; first | (rw [if_pos rfl] at e9; omega) | (rw [if_neg (by decide)] at e9; omega)
                                    · skip
                                      refine zz_iconst 476 X.1 (v := nI 1) dL_isBuilt_476 rfl ?_
                                      refine zz_goto 477 481 X.1 dL_isBuilt_477 (by decide) ?_
                                      refine zz_topi (bI true) rfl ?_
                                      rw [← hQ]
                                      refine zz_iret 481 X.1 hr (bI_nar _) hlk (x18, (F, hs9, G, T), b) ?_ (fun _ h _ => h) dL_isBuilt_481
                                      exact ⟨_, _, rfl, rfl, hrd9⟩
                          · exfalso; exact h382 (by rw [hl9])
                  · skip
                    obtain ⟨j, hnj, hmj, hj, hqj, hbt⟩ := nx_some (by omega : ¬ (nx (hM hs s0) m0).toInt = -1)
                    rw [hnj]
                    have hcj : ct (hM hs s0) m0 = ct (hM hs s0) j := ct_stop hmj hbt
                    have hlj : ln (hM hs s0) j = ln (hM hs s0) m0 := ln_down hmj hbt
                    have hcl := ct_le (hM hs s0) m0
                    refine zz_aload_n 254 X.1 0 dL_isBuilt_254 rfl ?_
                    refine ll_get 255 X (by decide +kernel) 1 (by decide) (v := .ref (K 0)) rfl (by decide +kernel) rfl dL_isBuilt_255 ?_
                    refine zz_bipush 258 X.1 (v := nI 6) dL_isBuilt_258 rfl ?_
                    refine zz_iload 260 X.1 4 dL_isBuilt_260 rfl ?_
                    refine ll_callDi 262 X hml hAp (As := [.int (nI 6), .int (nI j)]) (kt_X6_add_ok l D C K hAp.1 F hs9 G T 6 j (by first | rfl | assumption | omega) (by first | rfl | assumption | omega)) gL_isBuilt_X6_add rfl ⟨rfl, rfl⟩ yd_X6_add ⟨Nat.le_of_ble_eq_true rfl, Nat.le_of_ble_eq_true rfl⟩ rfl rfl (Nat.le_of_ble_eq_true rfl) ⟨Nat.le_of_ble_eq_true rfl, Nat.le_of_ble_eq_true rfl⟩ dL_isBuilt_262 ?_
                    rintro r24 ⟨F24, hs24, G24, T24⟩ hu24
                    obtain ⟨rfl, hv24⟩ := hu24
                    cases hv24
                    refine zz_world (P' := (LPo D C K kL kH (x9, (F, (sS hs9 6 (p1 (hM hs9 6) j true)), G, T), b))) (fun _ h => h) ?_
                    obtain ⟨hs25, eh25⟩ : ∃ h, h = sS hs9 6 (p1 (hM hs9 6) j true) := ⟨_, rfl⟩
                    refine zz_world (P' := (LPo D C K kL kH (x9, (F, hs25, G, T), b))) (lp_hs eh25.symm) ?_
                    have g25_6 : ∀ i, i < 1024 → hM hs25 6 i = (p1 (fun i => decide (i < m0) && hM hs s0 i) j true i) := fun i hi => (by rw [eh25]; exact hM_sS hi : hM hs25 6 i = (p1 (hM hs9 6) j true) i).trans ((p1_cong h6) i hi)
                    have g25_s0 : ∀ i, i < 1024 → hM hs25 s0 i = (hM hs s0 i) := fun i hi => (by rw [eh25]; exact hM_sSo (by omega) hi : hM hs25 s0 i = hM hs9 s0 i).trans (hS i hi)
                    have rd25 : RD hs25 b := eh25 ▸ RD_sS hrd9 (by omega)
                    refine zz_ifB_eq 265 298 X.1 dL_isBuilt_265 (by decide) (fun h265 => ?_) (fun h265 => ?_)
                    · exfalso; have e9 := h6 j hj; simp [show ¬ j < m0 by omega] at e9; rw [e9] at h265; exact absurd h265 (by decide)
                    · skip
                      refine zz_aload_n 268 X.1 0 dL_isBuilt_268 rfl ?_
                      refine ll_get 269 X (by decide +kernel) 1 (by decide) (v := .ref (K 0)) rfl (by decide +kernel) rfl dL_isBuilt_269 ?_
                      refine zz_iload_n 272 X.1 1 dL_isBuilt_272 rfl ?_
                      refine zz_iload_n 273 X.1 2 dL_isBuilt_273 rfl ?_
                      refine ll_callDi 274 X hml hAp (As := [.int (nI s0), .int (nI (ct (hM hs s0) m0))]) (kt_X6_memberAt_ok l D C K hAp.1 F hs25 G T s0 (nI (ct (hM hs s0) m0)) ((ct (hM hs s0) m0 : Nat) : Int) (nI_toInt (by omega)) (by first | rfl | assumption | omega)) gL_isBuilt_X6_memberAt rfl ⟨rfl, rfl⟩ yd_X6_memberAt ⟨Nat.le_of_ble_eq_true rfl, Nat.le_of_ble_eq_true rfl⟩ rfl rfl (Nat.le_of_ble_eq_true rfl) ⟨Nat.le_of_ble_eq_true rfl, Nat.le_of_ble_eq_true rfl⟩ dL_isBuilt_274 ?_
                      rintro r26 ⟨F26, hs26, G26, T26⟩ hu26
                      obtain ⟨rfl, hv26⟩ := hu26
                      cases hv26
                      refine zz_world (P' := (LPo D C K kL kH (x9, (F, hs25, G, T), b))) (fun _ h => h) ?_
                      refine zz_iload 277 X.1 4 dL_isBuilt_277 rfl ?_
                      refine zz_icmp_ne 279 298 X.1 rfl (nI_toInt (by omega)) dL_isBuilt_279 (by decide) (fun h279 => ?_) (fun h279 => ?_)
                      · exfalso; exact h279 (by rw [mA_cong g25_s0, hcj, mA_at hj hqj]; exact nI_toInt (by omega))
                      · skip
                        refine zz_aload_n 282 X.1 0 dL_isBuilt_282 rfl ?_
                        refine ll_get 283 X (by decide +kernel) 1 (by decide) (v := .ref (K 0)) rfl (by decide +kernel) rfl dL_isBuilt_283 ?_
                        refine zz_iload_n 286 X.1 1 dL_isBuilt_286 rfl ?_
                        refine zz_iload 287 X.1 4 dL_isBuilt_287 rfl ?_
                        refine zz_iconst 289 X.1 (v := nI 1) dL_isBuilt_289 rfl ?_
                        refine zz_isub 290 X.1 (v := (nI j - nI 1)) dL_isBuilt_290 rfl ?_
                        refine ll_callDi 291 X hml hAp (As := [.int (nI s0), .int (nI j - nI 1)]) (kt_X6_previous_ok l D C K hAp.1 F hs25 G T s0 (nI j - nI 1) j (((j : Nat) : Int) - ((1 : Nat) : Int)) ((zi_subN (by omega) (by omega))) (by first | rfl | assumption | omega) (by omega)) gL_isBuilt_X6_previous rfl ⟨rfl, rfl⟩ yd_X6_previous ⟨Nat.le_of_ble_eq_true rfl, Nat.le_of_ble_eq_true rfl⟩ rfl rfl (Nat.le_of_ble_eq_true rfl) ⟨Nat.le_of_ble_eq_true rfl, Nat.le_of_ble_eq_true rfl⟩ dL_isBuilt_291 ?_
                        rintro r27 ⟨F27, hs27, G27, T27⟩ hu27
                        obtain ⟨rfl, hv27⟩ := hu27
                        cases hv27
                        refine zz_world (P' := (LPo D C K kL kH (x9, (F, hs25, G, T), b))) (fun _ h => h) ?_
                        refine zz_topi ((nI (ln (hM hs s0) j)) - 1) (by rw [show min j 1024 = j by omega, ln_cong (n := j) (fun i hi => g25_s0 i (by omega))]) ?_
                        refine zz_iload_n 294 X.1 3 dL_isBuilt_294 rfl ?_
                        refine zz_icmp_eq 295 300 X.1 rfl rfl dL_isBuilt_295 (by decide) (fun h295 => ?_) (fun h295 => ?_)
                        · skip
                          refine zz_iload 300 X.1 4 dL_isBuilt_300 rfl ?_
                          refine zz_topi ((nI (ln (hM hs s0) (j + 1))) - 1) (by rw [ln_here hqj]; exact (nI_pm j).symm) ?_
                          refine zz_istore_n 302 X.1 (lv' := [(3, .int ((nI (ln (hM hs s0) (j + 1))) - 1)), (0, .ref kL), (1, .int (nI s0)), (2, .int (nI (ct (hM hs s0) m0))), (4, .int (nI j))]) dL_isBuilt_302 (by decide) rfl ?_
                          refine zz_iinc 303 X.1 3 (v := (nI (ct (hM hs s0) (j + 1)))) (lv' := [(2, .int (nI (ct (hM hs s0) (j + 1)))), (3, .int ((nI (ln (hM hs s0) (j + 1))) - 1)), (0, .ref kL), (1, .int (nI s0)), (4, .int (nI j))]) dL_isBuilt_303 rfl ((nI_add _ 1).trans (congrArg nI (by rw [hcj]; exact ct_t hqj))) (by decide) rfl ?_
                          refine zz_aload_n 306 X.1 2 dL_isBuilt_306 rfl ?_
                          refine ll_get 307 X (by decide +kernel) 1 (by decide) (v := .ref (K 0)) rfl (by decide +kernel) rfl dL_isBuilt_307 ?_
                          refine zz_iload_n 310 X.1 3 dL_isBuilt_310 rfl ?_
                          refine zz_iload 311 X.1 4 dL_isBuilt_311 rfl ?_
                          refine zz_iconst 313 X.1 (v := nI 1) dL_isBuilt_313 rfl ?_
                          refine zz_iadd 314 X.1 (v := (nI (j + 1))) dL_isBuilt_314 (nI_add _ _) ?_
                          refine ll_callDi 315 X hml hAp (As := [.int (nI s0), .int (nI (j + 1))]) (kt_X6_next_ok l D C K hAp.1 F hs25 G T s0 (j + 1) (by first | rfl | assumption | omega) (by first | rfl | assumption | omega)) gL_isBuilt_X6_next rfl ⟨rfl, rfl⟩ yd_X6_next ⟨Nat.le_of_ble_eq_true rfl, Nat.le_of_ble_eq_true rfl⟩ rfl rfl (Nat.le_of_ble_eq_true rfl) ⟨Nat.le_of_ble_eq_true rfl, Nat.le_of_ble_eq_true rfl⟩ dL_isBuilt_315 ?_
                          rintro r28 ⟨F28, hs28, G28, T28⟩ hu28
                          obtain ⟨rfl, hv28⟩ := hu28
                          cases hv28
                          refine zz_world (P' := (LPo D C K kL kH (x9, (F, hs25, G, T), b))) (fun _ h => h) ?_
                          refine zz_topi (nx (hM hs s0) (j + 1)) (nx_cong g25_s0 _) ?_
                          refine zz_istore 318 X.1 (lv' := [(4, .int (nx (hM hs s0) (j + 1))), (2, .int (nI (ct (hM hs s0) (j + 1)))), (3, .int ((nI (ln (hM hs s0) (j + 1))) - 1)), (0, .ref kL), (1, .int (nI s0))]) dL_isBuilt_318 (by decide) rfl ?_
                          refine zz_goto 320 248 X.1 dL_isBuilt_320 (by decide) ?_
                          refine zz_lvs [3, 4, 1, 2, 0] rfl ?_
                          exact ih248 (j + 1) hs25 (by omega) (fun i hi => (g25_6 i hi).trans (mem_up hmj hqj hbt i)) (g25_s0) (rd25) (by omega)
                        · exfalso; exact h295 (by rw [hlj])
              refine zz_lvs [3, 4, 2, 1, 0] rfl ?_
              exact C248 (1024 - 0 + 1) 0 hs11 (by omega) (fun i hi => (g11_6 i hi).trans (by simp)) (g11_s0) (rd11) (Nat.lt_succ_self _)
            · exfalso; omega
      · skip
        obtain ⟨jj, rfl⟩ : ∃ jj, j = jj + 1 := ⟨j - 1, by omega⟩
        obtain rfl : x2 = nI jj := zi_of (by omega)
        have hl2 : ln (hM hs9 s0) 1024 = ln (hM hs s0) 1024 := ln_cong hS
        have hl3 := ln_le (hM hs s0) 1024
        refine zz_aload_n 31 X.1 0 dL_isBuilt_31 rfl ?_
        refine ll_get 32 X (by decide +kernel) 1 (by decide) (v := .ref (K 0)) rfl (by decide +kernel) rfl dL_isBuilt_32 ?_
        refine zz_iload_n 35 X.1 1 dL_isBuilt_35 rfl ?_
        refine zz_iload_n 36 X.1 2 dL_isBuilt_36 rfl ?_
        refine ll_callDl 37 X hml hAp (As := [.int (nI s0), .int (nI jj)]) (kt_X6_wordAt_ok l D C K hAp.1 F hs9 G T s0 jj (by first | rfl | assumption | omega) (by first | rfl | assumption | omega)) gL_isBuilt_X6_wordAt rfl ⟨rfl, rfl⟩ yd_X6_wordAt ⟨Nat.le_of_ble_eq_true rfl, Nat.le_of_ble_eq_true rfl⟩ rfl rfl (Nat.le_of_ble_eq_true rfl) ⟨Nat.le_of_ble_eq_true rfl, Nat.le_of_ble_eq_true rfl⟩ dL_isBuilt_37 ?_
        rintro r29 ⟨F29, hs29, G29, T29⟩ hu29
        obtain ⟨rfl, hv29⟩ := hu29
        cases hv29
        refine zz_world (P' := (LPo D C K kL kH (x9, (F, hs9, G, T), b))) (fun _ h => h) ?_
        obtain ⟨w0, hw0⟩ : ∃ w0, w0 = lN (nB (hM hs9 s0) (64 * jj) 64) := ⟨_, rfl⟩
        refine zz_topl w0 hw0.symm ?_
        have hw1 : w0 = wd (hM hs s0) jj := hw0.trans (wd_cong (k := jj) (fun i hi => hS _ (by omega)))
        refine zz_lstore_n 40 X.1 (lv' := [(3, .long w0), (0, .ref kL), (1, .int (nI s0)), (2, .int (nI jj))]) dL_isBuilt_40 (by decide) rfl ?_
        refine zz_iconst 41 X.1 (v := nI 0) dL_isBuilt_41 rfl ?_
        refine zz_istore 42 X.1 (lv' := [(5, .int (nI 0)), (3, .long w0), (0, .ref kL), (1, .int (nI s0)), (2, .int (nI jj))]) dL_isBuilt_42 (by decide) rfl ?_
        have C44 : ∀ (d : Nat) (k : Nat) (hk8 : k ≤ 8) (hd : 8 - k < d), ZZ p l e rm_L_isBuilt s m args below meth c 0 0 Q (zz_A (LZ K kL kH) s.heap.size) (LPo D C K kL kH (x9, (F, hs9, G, T), b)) 6 [(0, .ref kL), (1, .int (nI s0)), (2, .int (nI jj)), (3, .long w0), (5, .int (nI k))] [] 44 := by
          intro d
          induction d with
          | zero => intro k hk8 hd; exact absurd hd (Nat.not_lt_zero _)
          | succ d ih44 =>
            intro k hk8 hd
            refine zz_iload 44 X.1 4 dL_isBuilt_44 rfl ?_
            refine zz_bipush 46 X.1 (v := nI 8) dL_isBuilt_46 rfl ?_
            refine zz_icmp_ge 48 107 X.1 (nI_toInt (by omega)) (nI_toInt (by omega)) dL_isBuilt_48 (by decide) (fun h48 => ?_) (fun h48 => ?_)
            · skip
              refine zz_aload_n 107 X.1 0 dL_isBuilt_107 rfl ?_
              refine ll_get 108 X (by decide +kernel) 1 (by decide) (v := .ref (K 0)) rfl (by decide +kernel) rfl dL_isBuilt_108 ?_
              refine zz_bipush 111 X.1 (v := nI 6) dL_isBuilt_111 rfl ?_
              refine zz_lload_n 113 X.1 3 dL_isBuilt_113 rfl ?_
              refine zz_lconst 114 X.1 (v := 0) dL_isBuilt_114 (by decide) ?_
              refine zz_lconst 115 X.1 (v := 0) dL_isBuilt_115 (by decide) ?_
              refine ll_callDi 116 X hml hAp (As := [.int (nI 6), .long w0, .long 0, .long 0]) (kt_X6_loadWords_ok l D C K hAp.1 F hs9 G T 6 w0 0 0 (by first | rfl | assumption | omega)) gL_isBuilt_X6_loadWords rfl ⟨rfl, rfl⟩ yd_X6_loadWords ⟨Nat.le_of_ble_eq_true rfl, Nat.le_of_ble_eq_true rfl⟩ rfl rfl (Nat.le_of_ble_eq_true rfl) ⟨Nat.le_of_ble_eq_true rfl, Nat.le_of_ble_eq_true rfl⟩ dL_isBuilt_116 ?_
              rintro r30 ⟨F30, hs30, G30, T30⟩ hu30
              obtain ⟨rfl, hv30⟩ := hu30
              cases hv30
              refine zz_world (P' := (LPo D C K kL kH (x9, (F, (sS hs9 6 (pW3 w0 0 0)), G, T), b))) (fun _ h => h) ?_
              obtain ⟨hs31, eh31⟩ : ∃ h, h = sS hs9 6 (pW3 w0 0 0) := ⟨_, rfl⟩
              refine zz_world (P' := (LPo D C K kL kH (x9, (F, hs31, G, T), b))) (lp_hs eh31.symm) ?_
              have g31_6 : ∀ i, i < 1024 → hM hs31 6 i = (pW3 w0 0 0 i) := fun i hi => (by rw [eh31]; exact hM_sS hi : hM hs31 6 i = (pW3 w0 0 0) i).trans ((fun _ _ => rfl) i hi)
              have g31_5 : ∀ i, i < 1024 → hM hs31 5 i = (decide (64 * (jj + 1) ≤ i) && hM hs s0 i) := fun i hi => (by rw [eh31]; exact hM_sSo (by omega) hi : hM hs31 5 i = hM hs9 5 i).trans (h5 i hi)
              have g31_s0 : ∀ i, i < 1024 → hM hs31 s0 i = (hM hs s0 i) := fun i hi => (by rw [eh31]; exact hM_sSo (by omega) hi : hM hs31 s0 i = hM hs9 s0 i).trans (hS i hi)
              have rd31 : RD hs31 b := eh31 ▸ RD_sS hrd9 (by omega)
              refine zz_pop 119 X.1 dL_isBuilt_119 rfl ?_
              refine zz_aload_n 120 X.1 0 dL_isBuilt_120 rfl ?_
              refine ll_get 121 X (by decide +kernel) 1 (by decide) (v := .ref (K 0)) rfl (by decide +kernel) rfl dL_isBuilt_121 ?_
              refine zz_bipush 124 X.1 (v := nI 6) dL_isBuilt_124 rfl ?_
              refine zz_bipush 126 X.1 (v := nI 64) dL_isBuilt_126 rfl ?_
              refine zz_iload_n 128 X.1 2 dL_isBuilt_128 rfl ?_
              refine zz_imul 129 X.1 (v := (nI (64 * jj))) dL_isBuilt_129 (pk_mul _ _) ?_
              refine ll_callDi 130 X hml hAp (As := [.int (nI 6), .int (nI (64 * jj))]) (kt_X6_shift_ok l D C K hAp.1 F hs31 G T 6 (nI (64 * jj)) ((64 * jj : Nat) : Int) (nI_toInt (by omega)) (by first | rfl | assumption | omega) (by first | rfl | assumption | omega)) gL_isBuilt_X6_shift rfl ⟨rfl, rfl⟩ yd_X6_shift ⟨Nat.le_of_ble_eq_true rfl, Nat.le_of_ble_eq_true rfl⟩ rfl rfl (Nat.le_of_ble_eq_true rfl) ⟨Nat.le_of_ble_eq_true rfl, Nat.le_of_ble_eq_true rfl⟩ dL_isBuilt_130 ?_
              rintro r32 ⟨F32, hs32, G32, T32⟩ hu32
              obtain ⟨rfl, hv32⟩ := hu32
              cases hv32
              refine zz_world (P' := (LPo D C K kL kH (x9, (F, (sS hs31 6 (pH (hM hs31 6) ((64 * jj : Nat) : Int))), G, T), b))) (fun _ h => h) ?_
              obtain ⟨hs33, eh33⟩ : ∃ h, h = sS hs31 6 (pH (hM hs31 6) ((64 * jj : Nat) : Int)) := ⟨_, rfl⟩
              refine zz_world (P' := (LPo D C K kL kH (x9, (F, hs33, G, T), b))) (lp_hs eh33.symm) ?_
              have g33_6 : ∀ i, i < 1024 → hM hs33 6 i = (pH (pW3 w0 0 0) ((64 * jj : Nat) : Int) i) := fun i hi => (by rw [eh33]; exact hM_sS hi : hM hs33 6 i = (pH (hM hs31 6) ((64 * jj : Nat) : Int)) i).trans ((pH_cong g31_6) i hi)
              have g33_5 : ∀ i, i < 1024 → hM hs33 5 i = (decide (64 * (jj + 1) ≤ i) && hM hs s0 i) := fun i hi => (by rw [eh33]; exact hM_sSo (by omega) hi : hM hs33 5 i = hM hs31 5 i).trans (g31_5 i hi)
              have g33_s0 : ∀ i, i < 1024 → hM hs33 s0 i = (hM hs s0 i) := fun i hi => (by rw [eh33]; exact hM_sSo (by omega) hi : hM hs33 s0 i = hM hs31 s0 i).trans (g31_s0 i hi)
              have rd33 : RD hs33 b := eh33 ▸ RD_sS rd31 (by omega)
              refine zz_topi (nI (ct (pH (pW3 w0 0 0) ((64 * jj : Nat) : Int)) 1024)) (congrArg nI (ct_cong (pH_cong g31_6))) ?_
              refine zz_lload_n 133 X.1 3 dL_isBuilt_133 rfl ?_
              refine zz_callS0i 134 ⟨X.1.1, X.1.2, hml, X.2.2.1, X.2.1⟩ (fun q h => Or.inr h) LP_keep (As := [.long w0]) (kt_J13_bitCount_95d88 l w0) gL_isBuilt_J13_bitCount_95d88 rfl ⟨rfl, rfl⟩ yd_J13_bitCount_95d88.2 ⟨Nat.le_of_ble_eq_true rfl, Nat.le_of_ble_eq_true rfl⟩ rfl rfl (Nat.le_of_ble_eq_true rfl) ⟨Nat.zero_le _, Nat.zero_le _⟩ dL_isBuilt_134 ?_
              intro r34 hu34
              obtain rfl := hu34
              have hcb35_0 := ct_le (fun i => w0.toBitVec.getLsbD i) 64
              have hcb35_1 := ct_le (pH (pW3 w0 0 0) ((64 * jj : Nat) : Int)) 1024
              refine zz_icmp_eq 137 142 X.1 (nI_toInt (by omega)) (nI_toInt (by omega)) dL_isBuilt_137 (by decide) (fun h137 => ?_) (fun h137 => ?_)
              · skip
                refine zz_aload_n 142 X.1 0 dL_isBuilt_142 rfl ?_
                refine ll_get 143 X (by decide +kernel) 1 (by decide) (v := .ref (K 0)) rfl (by decide +kernel) rfl dL_isBuilt_143 ?_
                refine zz_iconst 146 X.1 (v := nI 5) dL_isBuilt_146 rfl ?_
                refine zz_bipush 147 X.1 (v := nI 6) dL_isBuilt_147 rfl ?_
                refine ll_callDi 149 X hml hAp (As := [.int (nI 5), .int (nI 6)]) (kt_X6_unite_ok l D C K hAp.1 F hs33 G T 5 6 (by first | rfl | assumption | omega) (by first | rfl | assumption | omega)) gL_isBuilt_X6_unite rfl ⟨rfl, rfl⟩ yd_X6_unite ⟨Nat.le_of_ble_eq_true rfl, Nat.le_of_ble_eq_true rfl⟩ rfl rfl (Nat.le_of_ble_eq_true rfl) ⟨Nat.le_of_ble_eq_true rfl, Nat.le_of_ble_eq_true rfl⟩ dL_isBuilt_149 ?_
                rintro r36 ⟨F36, hs36, G36, T36⟩ hu36
                obtain ⟨rfl, hv36⟩ := hu36
                cases hv36
                refine zz_world (P' := (LPo D C K kL kH (x9, (F, (sS hs33 5 (fun i => pJ 124 (hM hs33 5 i) (hM hs33 6 i))), G, T), b))) (fun _ h => h) ?_
                obtain ⟨hs37, eh37⟩ : ∃ h, h = sS hs33 5 (fun i => pJ 124 (hM hs33 5 i) (hM hs33 6 i)) := ⟨_, rfl⟩
                refine zz_world (P' := (LPo D C K kL kH (x9, (F, hs37, G, T), b))) (lp_hs eh37.symm) ?_
                have g37_5 : ∀ i, i < 1024 → hM hs37 5 i = (pJ 124 (decide (64 * (jj + 1) ≤ i) && hM hs s0 i) (pH (pW3 w0 0 0) ((64 * jj : Nat) : Int) i)) := fun i hi => (by rw [eh37]; exact hM_sS hi : hM hs37 5 i = (fun i => pJ 124 (hM hs33 5 i) (hM hs33 6 i)) i).trans ((fun i hi => cg2 (g33_5 i hi) (g33_6 i hi)) i hi)
                have g37_s0 : ∀ i, i < 1024 → hM hs37 s0 i = (hM hs s0 i) := fun i hi => (by rw [eh37]; exact hM_sSo (by omega) hi : hM hs37 s0 i = hM hs33 s0 i).trans (g33_s0 i hi)
                have g37_6 : ∀ i, i < 1024 → hM hs37 6 i = (pH (pW3 w0 0 0) ((64 * jj : Nat) : Int) i) := fun i hi => (by rw [eh37]; exact hM_sSo (by omega) hi : hM hs37 6 i = hM hs33 6 i).trans (g33_6 i hi)
                have rd37 : RD hs37 b := eh37 ▸ RD_sS rd33 (by omega)
                refine zz_topi (nI (ct (fun i => pJ 124 (decide (64 * (jj + 1) ≤ i) && hM hs s0 i) (pH (pW3 w0 0 0) ((64 * jj : Nat) : Int) i)) 1024)) (congrArg nI (ct_cong (fun i hi => cg2 (g33_5 i hi) (g33_6 i hi)))) ?_
                refine zz_pop 152 X.1 dL_isBuilt_152 rfl ?_
                have g5 : ∀ i, i < 1024 → hM hs37 5 i = (decide (64 * jj ≤ i) && hM hs s0 i) := fun i hi => (g37_5 i hi).trans (un_word hw1 i hi)
                refine zz_iinc 153 X.1 2 (v := (nI jj + (-1))) (lv' := [(2, .int (nI jj + (-1))), (0, .ref kL), (1, .int (nI s0)), (3, .long w0), (5, .int (nI k))]) dL_isBuilt_153 rfl rfl (by decide) rfl ?_
                refine zz_goto 156 27 X.1 dL_isBuilt_156 (by decide) ?_
                refine zz_lvs [1, 2, 0] rfl ?_
                exact ih27 jj (nI jj + (-1)) hs37 x9 (by omega) (zi_decN (by omega)) (g5) (g37_s0) (rd37) (by omega)
              · exfalso; have e9 := ct_pW (w := w0) (j := jj) (by omega); omega
            · skip
              refine zz_bipush 51 X.1 (v := nI 8) dL_isBuilt_51 rfl ?_
              refine zz_iload_n 53 X.1 2 dL_isBuilt_53 rfl ?_
              refine zz_imul 54 X.1 (v := (nI (8 * jj))) dL_isBuilt_54 (pk_mul _ _) ?_
              refine zz_iload 55 X.1 4 dL_isBuilt_55 rfl ?_
              refine zz_iadd 57 X.1 (v := (nI ((8 * jj) + k))) dL_isBuilt_57 (nI_add _ _) ?_
              refine zz_aload_n 58 X.1 0 dL_isBuilt_58 rfl ?_
              refine ll_get 59 X (by decide +kernel) 1 (by decide) (v := .ref (K 0)) rfl (by decide +kernel) rfl dL_isBuilt_59 ?_
              refine zz_iload_n 62 X.1 1 dL_isBuilt_62 rfl ?_
              refine ll_callDi 63 X hml hAp (As := [.int (nI s0)]) (kt_X6_byteCount_ok l D C K hAp.1 F hs9 G T s0 (by first | rfl | assumption | omega)) gL_isBuilt_X6_byteCount rfl ⟨rfl, rfl⟩ yd_X6_byteCount ⟨Nat.le_of_ble_eq_true rfl, Nat.le_of_ble_eq_true rfl⟩ rfl rfl (Nat.le_of_ble_eq_true rfl) ⟨Nat.le_of_ble_eq_true rfl, Nat.le_of_ble_eq_true rfl⟩ dL_isBuilt_63 ?_
              rintro r38 ⟨F38, hs38, G38, T38⟩ hu38
              obtain ⟨rfl, hv38⟩ := hu38
              cases hv38
              refine zz_world (P' := (LPo D C K kL kH (x9, (F, hs9, G, T), b))) (fun _ h => h) ?_
              refine zz_icmp_ge 66 107 X.1 (nI_toInt (by omega)) (nI_toInt (by omega)) dL_isBuilt_66 (by decide) (fun h66 => ?_) (fun h66 => ?_)
              · skip
                refine zz_aload_n 107 X.1 0 dL_isBuilt_107 rfl ?_
                refine ll_get 108 X (by decide +kernel) 1 (by decide) (v := .ref (K 0)) rfl (by decide +kernel) rfl dL_isBuilt_108 ?_
                refine zz_bipush 111 X.1 (v := nI 6) dL_isBuilt_111 rfl ?_
                refine zz_lload_n 113 X.1 3 dL_isBuilt_113 rfl ?_
                refine zz_lconst 114 X.1 (v := 0) dL_isBuilt_114 (by decide) ?_
                refine zz_lconst 115 X.1 (v := 0) dL_isBuilt_115 (by decide) ?_
                refine ll_callDi 116 X hml hAp (As := [.int (nI 6), .long w0, .long 0, .long 0]) (kt_X6_loadWords_ok l D C K hAp.1 F hs9 G T 6 w0 0 0 (by first | rfl | assumption | omega)) gL_isBuilt_X6_loadWords rfl ⟨rfl, rfl⟩ yd_X6_loadWords ⟨Nat.le_of_ble_eq_true rfl, Nat.le_of_ble_eq_true rfl⟩ rfl rfl (Nat.le_of_ble_eq_true rfl) ⟨Nat.le_of_ble_eq_true rfl, Nat.le_of_ble_eq_true rfl⟩ dL_isBuilt_116 ?_
                rintro r39 ⟨F39, hs39, G39, T39⟩ hu39
                obtain ⟨rfl, hv39⟩ := hu39
                cases hv39
                refine zz_world (P' := (LPo D C K kL kH (x9, (F, (sS hs9 6 (pW3 w0 0 0)), G, T), b))) (fun _ h => h) ?_
                obtain ⟨hs40, eh40⟩ : ∃ h, h = sS hs9 6 (pW3 w0 0 0) := ⟨_, rfl⟩
                refine zz_world (P' := (LPo D C K kL kH (x9, (F, hs40, G, T), b))) (lp_hs eh40.symm) ?_
                have g40_6 : ∀ i, i < 1024 → hM hs40 6 i = (pW3 w0 0 0 i) := fun i hi => (by rw [eh40]; exact hM_sS hi : hM hs40 6 i = (pW3 w0 0 0) i).trans ((fun _ _ => rfl) i hi)
                have g40_5 : ∀ i, i < 1024 → hM hs40 5 i = (decide (64 * (jj + 1) ≤ i) && hM hs s0 i) := fun i hi => (by rw [eh40]; exact hM_sSo (by omega) hi : hM hs40 5 i = hM hs9 5 i).trans (h5 i hi)
                have g40_s0 : ∀ i, i < 1024 → hM hs40 s0 i = (hM hs s0 i) := fun i hi => (by rw [eh40]; exact hM_sSo (by omega) hi : hM hs40 s0 i = hM hs9 s0 i).trans (hS i hi)
                have rd40 : RD hs40 b := eh40 ▸ RD_sS hrd9 (by omega)
                refine zz_pop 119 X.1 dL_isBuilt_119 rfl ?_
                refine zz_aload_n 120 X.1 0 dL_isBuilt_120 rfl ?_
                refine ll_get 121 X (by decide +kernel) 1 (by decide) (v := .ref (K 0)) rfl (by decide +kernel) rfl dL_isBuilt_121 ?_
                refine zz_bipush 124 X.1 (v := nI 6) dL_isBuilt_124 rfl ?_
                refine zz_bipush 126 X.1 (v := nI 64) dL_isBuilt_126 rfl ?_
                refine zz_iload_n 128 X.1 2 dL_isBuilt_128 rfl ?_
                refine zz_imul 129 X.1 (v := (nI (64 * jj))) dL_isBuilt_129 (pk_mul _ _) ?_
                refine ll_callDi 130 X hml hAp (As := [.int (nI 6), .int (nI (64 * jj))]) (kt_X6_shift_ok l D C K hAp.1 F hs40 G T 6 (nI (64 * jj)) ((64 * jj : Nat) : Int) (nI_toInt (by omega)) (by first | rfl | assumption | omega) (by first | rfl | assumption | omega)) gL_isBuilt_X6_shift rfl ⟨rfl, rfl⟩ yd_X6_shift ⟨Nat.le_of_ble_eq_true rfl, Nat.le_of_ble_eq_true rfl⟩ rfl rfl (Nat.le_of_ble_eq_true rfl) ⟨Nat.le_of_ble_eq_true rfl, Nat.le_of_ble_eq_true rfl⟩ dL_isBuilt_130 ?_
                rintro r41 ⟨F41, hs41, G41, T41⟩ hu41
                obtain ⟨rfl, hv41⟩ := hu41
                cases hv41
                refine zz_world (P' := (LPo D C K kL kH (x9, (F, (sS hs40 6 (pH (hM hs40 6) ((64 * jj : Nat) : Int))), G, T), b))) (fun _ h => h) ?_
                obtain ⟨hs42, eh42⟩ : ∃ h, h = sS hs40 6 (pH (hM hs40 6) ((64 * jj : Nat) : Int)) := ⟨_, rfl⟩
                refine zz_world (P' := (LPo D C K kL kH (x9, (F, hs42, G, T), b))) (lp_hs eh42.symm) ?_
                have g42_6 : ∀ i, i < 1024 → hM hs42 6 i = (pH (pW3 w0 0 0) ((64 * jj : Nat) : Int) i) := fun i hi => (by rw [eh42]; exact hM_sS hi : hM hs42 6 i = (pH (hM hs40 6) ((64 * jj : Nat) : Int)) i).trans ((pH_cong g40_6) i hi)
                have g42_5 : ∀ i, i < 1024 → hM hs42 5 i = (decide (64 * (jj + 1) ≤ i) && hM hs s0 i) := fun i hi => (by rw [eh42]; exact hM_sSo (by omega) hi : hM hs42 5 i = hM hs40 5 i).trans (g40_5 i hi)
                have g42_s0 : ∀ i, i < 1024 → hM hs42 s0 i = (hM hs s0 i) := fun i hi => (by rw [eh42]; exact hM_sSo (by omega) hi : hM hs42 s0 i = hM hs40 s0 i).trans (g40_s0 i hi)
                have rd42 : RD hs42 b := eh42 ▸ RD_sS rd40 (by omega)
                refine zz_topi (nI (ct (pH (pW3 w0 0 0) ((64 * jj : Nat) : Int)) 1024)) (congrArg nI (ct_cong (pH_cong g40_6))) ?_
                refine zz_lload_n 133 X.1 3 dL_isBuilt_133 rfl ?_
                refine zz_callS0i 134 ⟨X.1.1, X.1.2, hml, X.2.2.1, X.2.1⟩ (fun q h => Or.inr h) LP_keep (As := [.long w0]) (kt_J13_bitCount_95d88 l w0) gL_isBuilt_J13_bitCount_95d88 rfl ⟨rfl, rfl⟩ yd_J13_bitCount_95d88.2 ⟨Nat.le_of_ble_eq_true rfl, Nat.le_of_ble_eq_true rfl⟩ rfl rfl (Nat.le_of_ble_eq_true rfl) ⟨Nat.zero_le _, Nat.zero_le _⟩ dL_isBuilt_134 ?_
                intro r43 hu43
                obtain rfl := hu43
                have hcb44_0 := ct_le (fun i => w0.toBitVec.getLsbD i) 64
                have hcb44_1 := ct_le (pH (pW3 w0 0 0) ((64 * jj : Nat) : Int)) 1024
                refine zz_icmp_eq 137 142 X.1 (nI_toInt (by omega)) (nI_toInt (by omega)) dL_isBuilt_137 (by decide) (fun h137 => ?_) (fun h137 => ?_)
                · skip
                  refine zz_aload_n 142 X.1 0 dL_isBuilt_142 rfl ?_
                  refine ll_get 143 X (by decide +kernel) 1 (by decide) (v := .ref (K 0)) rfl (by decide +kernel) rfl dL_isBuilt_143 ?_
                  refine zz_iconst 146 X.1 (v := nI 5) dL_isBuilt_146 rfl ?_
                  refine zz_bipush 147 X.1 (v := nI 6) dL_isBuilt_147 rfl ?_
                  refine ll_callDi 149 X hml hAp (As := [.int (nI 5), .int (nI 6)]) (kt_X6_unite_ok l D C K hAp.1 F hs42 G T 5 6 (by first | rfl | assumption | omega) (by first | rfl | assumption | omega)) gL_isBuilt_X6_unite rfl ⟨rfl, rfl⟩ yd_X6_unite ⟨Nat.le_of_ble_eq_true rfl, Nat.le_of_ble_eq_true rfl⟩ rfl rfl (Nat.le_of_ble_eq_true rfl) ⟨Nat.le_of_ble_eq_true rfl, Nat.le_of_ble_eq_true rfl⟩ dL_isBuilt_149 ?_
                  rintro r45 ⟨F45, hs45, G45, T45⟩ hu45
                  obtain ⟨rfl, hv45⟩ := hu45
                  cases hv45
                  refine zz_world (P' := (LPo D C K kL kH (x9, (F, (sS hs42 5 (fun i => pJ 124 (hM hs42 5 i) (hM hs42 6 i))), G, T), b))) (fun _ h => h) ?_
                  obtain ⟨hs46, eh46⟩ : ∃ h, h = sS hs42 5 (fun i => pJ 124 (hM hs42 5 i) (hM hs42 6 i)) := ⟨_, rfl⟩
                  refine zz_world (P' := (LPo D C K kL kH (x9, (F, hs46, G, T), b))) (lp_hs eh46.symm) ?_
                  have g46_5 : ∀ i, i < 1024 → hM hs46 5 i = (pJ 124 (decide (64 * (jj + 1) ≤ i) && hM hs s0 i) (pH (pW3 w0 0 0) ((64 * jj : Nat) : Int) i)) := fun i hi => (by rw [eh46]; exact hM_sS hi : hM hs46 5 i = (fun i => pJ 124 (hM hs42 5 i) (hM hs42 6 i)) i).trans ((fun i hi => cg2 (g42_5 i hi) (g42_6 i hi)) i hi)
                  have g46_s0 : ∀ i, i < 1024 → hM hs46 s0 i = (hM hs s0 i) := fun i hi => (by rw [eh46]; exact hM_sSo (by omega) hi : hM hs46 s0 i = hM hs42 s0 i).trans (g42_s0 i hi)
                  have g46_6 : ∀ i, i < 1024 → hM hs46 6 i = (pH (pW3 w0 0 0) ((64 * jj : Nat) : Int) i) := fun i hi => (by rw [eh46]; exact hM_sSo (by omega) hi : hM hs46 6 i = hM hs42 6 i).trans (g42_6 i hi)
                  have rd46 : RD hs46 b := eh46 ▸ RD_sS rd42 (by omega)
                  refine zz_topi (nI (ct (fun i => pJ 124 (decide (64 * (jj + 1) ≤ i) && hM hs s0 i) (pH (pW3 w0 0 0) ((64 * jj : Nat) : Int) i)) 1024)) (congrArg nI (ct_cong (fun i hi => cg2 (g42_5 i hi) (g42_6 i hi)))) ?_
                  refine zz_pop 152 X.1 dL_isBuilt_152 rfl ?_
                  have g5 : ∀ i, i < 1024 → hM hs46 5 i = (decide (64 * jj ≤ i) && hM hs s0 i) := fun i hi => (g46_5 i hi).trans (un_word hw1 i hi)
                  refine zz_iinc 153 X.1 2 (v := (nI jj + (-1))) (lv' := [(2, .int (nI jj + (-1))), (0, .ref kL), (1, .int (nI s0)), (3, .long w0), (5, .int (nI k))]) dL_isBuilt_153 rfl rfl (by decide) rfl ?_
                  refine zz_goto 156 27 X.1 dL_isBuilt_156 (by decide) ?_
                  refine zz_lvs [1, 2, 0] rfl ?_
                  exact ih27 jj (nI jj + (-1)) hs46 x9 (by omega) (zi_decN (by omega)) (g5) (g46_s0) (rd46) (by omega)
                · exfalso; have e9 := ct_pW (w := w0) (j := jj) (by omega); omega
              · skip
                refine zz_aload_n 69 X.1 0 dL_isBuilt_69 rfl ?_
                refine ll_get 70 X (by decide +kernel) 1 (by decide) (v := .ref (K 0)) rfl (by decide +kernel) rfl dL_isBuilt_70 ?_
                refine zz_iload_n 73 X.1 1 dL_isBuilt_73 rfl ?_
                refine zz_bipush 74 X.1 (v := nI 8) dL_isBuilt_74 rfl ?_
                refine zz_iload_n 76 X.1 2 dL_isBuilt_76 rfl ?_
                refine zz_imul 77 X.1 (v := (nI (8 * jj))) dL_isBuilt_77 (pk_mul _ _) ?_
                refine zz_iload 78 X.1 4 dL_isBuilt_78 rfl ?_
                refine zz_iadd 80 X.1 (v := (nI ((8 * jj) + k))) dL_isBuilt_80 (nI_add _ _) ?_
                refine ll_callDi 81 X hml hAp (As := [.int (nI s0), .int (nI ((8 * jj) + k))]) (kt_X6_byteAt_ok l D C K hAp.1 F hs9 G T s0 ((8 * jj) + k) (by first | rfl | assumption | omega) (by first | rfl | assumption | omega)) gL_isBuilt_X6_byteAt rfl ⟨rfl, rfl⟩ yd_X6_byteAt ⟨Nat.le_of_ble_eq_true rfl, Nat.le_of_ble_eq_true rfl⟩ rfl rfl (Nat.le_of_ble_eq_true rfl) ⟨Nat.le_of_ble_eq_true rfl, Nat.le_of_ble_eq_true rfl⟩ dL_isBuilt_81 ?_
                rintro r47 ⟨F47, hs47, G47, T47⟩ hu47
                obtain ⟨rfl, hv47⟩ := hu47
                cases hv47
                refine zz_world (P' := (LPo D C K kL kH (x9, (F, hs9, G, T), b))) (fun _ h => h) ?_
                refine zz_lload_n 84 X.1 3 dL_isBuilt_84 rfl ?_
                refine zz_bipush 85 X.1 (v := nI 8) dL_isBuilt_85 rfl ?_
                refine zz_iload 87 X.1 4 dL_isBuilt_87 rfl ?_
                refine zz_imul 89 X.1 (v := (nI (8 * k))) dL_isBuilt_89 (pk_mul _ _) ?_
                refine zz_lshr 90 X.1 (v := w0 >>> ((nI (8 * k)).toInt64 &&& 63)) dL_isBuilt_90 rfl ?_
                refine zz_ldc2 91 X.1 (v := 255) dL_isBuilt_91 X.2.2.1 (by exact (X.2.1 _ (by decide +kernel))) ?_
                refine zz_land 94 X.1 (v := (w0 >>> ((nI (8 * k)).toInt64 &&& 63)) &&& (255 : Int64)) dL_isBuilt_94 rfl ?_
                refine zz_l2i 95 X.1 (v := (((w0 >>> ((nI (8 * k)).toInt64 &&& 63)) &&& (255 : Int64)).toInt32)) dL_isBuilt_95 rfl ?_
                refine zz_icmp_eq 96 101 X.1 rfl rfl dL_isBuilt_96 (by decide) (fun h96 => ?_) (fun h96 => ?_)
                · skip
                  refine zz_iinc 101 X.1 4 (v := (nI (k + 1))) (lv' := [(5, .int (nI (k + 1))), (0, .ref kL), (1, .int (nI s0)), (2, .int (nI jj)), (3, .long w0)]) dL_isBuilt_101 rfl (nI_add k 1) (by decide) rfl ?_
                  refine zz_goto 104 44 X.1 dL_isBuilt_104 (by decide) ?_
                  refine zz_lvs [1, 2, 3, 4, 0] rfl ?_
                  exact ih44 (k + 1) (by omega) (by omega)
                · exfalso; exact h96 (by rw [hw1, ll_byte (k := k) (by omega), nB_cong (q := hM hs9 s0) (r := hM hs s0) (f := 8 * (8 * jj + k)) (n := 8) (fun i hi => hS _ (by omega))])
        refine zz_lvs [2, 3, 4, 1, 0] rfl ?_
        exact C44 (8 - 0 + 1) 0 (by omega) (Nat.lt_succ_self _)
  refine zz_lvs [1, 2, 0] rfl ?_
  exact C27 (((ln (hM hs s0) 1024 + 63) / 64) + 1) ((ln (hM hs s0) 1024 + 63) / 64) (nI ((ln (hM hs3 s0) 1024 + 63) / 64) - nI 1) hs3 x1 (by omega) (by rw [← hl0]; exact zi_subN (by omega) (by omega)) (fun i hi => (g3_5 i hi).trans (w5_0 (q := (hM hs s0)) (by omega) i hi)) (g3_s0) (rd3) (Nat.lt_succ_self _)
