abbrev rm_L_areMissing : Room := { frames := 11, cells := 0, slots := 0, locals := 205 }
theorem yd_L_areMissing : yL_areMissing.cls = RL ∧ yL_areMissing.cls ≠ "java/lang/invoke/MethodHandle" ∧ yL_areMissing.cls ≠ "java/lang/invoke/VarHandle" ∧ (parseMethodDescriptor yL_areMissing.desc).map (fun d => d.parameters.length) = some 1 := by decide +kernel
set_option maxHeartbeats 4000000 in
set_option maxRecDepth 100000 in
theorem kt_L_areMissing_t (l : Launch) (D : va_G) (C : Nat → ClassId) (K : Nat → Nat) (kL kH : Nat) (ad : Nat → Nat) (hAp : LAp K kL kH) (x : Int32) (F : Nat → Int32) (hs : Nat → Bool) (G T : Nat → Nat → Int32) (b : Nat → Bool)  (hrd : RD hs b) : LMi l yL_areMissing wsL_areMissing rm_L_areMissing D C K kL kH ad 0 0 [.int (bI true)] x F hs G T b (fun (r : Int32) (q : LSt) => ∃ (hs1 : Nat → Bool), r = (bI true) ∧ q = (x, (F, hs1, G, T), b) ∧ RD hs1 b) := by
  refine LMi_of (lv := [(0, .ref kL), (1, .int (bI true))]) (cc := cL_areMissing) (maxL := 4) (ret := (some .boolean)) rfl (by decide +kernel) (Nat.le_of_ble_eq_true rfl) rfl ?_
  intro p e s m args below meth c X hLA hml hr hlk
  generalize hQ : MQ below _ args s 0 0 _ = Q
  refine zz_aload_n 0 X.1 0 dL_areMissing_0 rfl ?_
  refine zz_iconst 1 X.1 (v := nI 5) dL_areMissing_1 rfl ?_
  refine zz_iconst 2 X.1 (v := nI 0) dL_areMissing_2 rfl ?_
  refine zz_iconst 3 X.1 (v := nI 0) dL_areMissing_3 rfl ?_
  refine ll_callLv 4 X hLA hml (As := [.int (nI 5), .int (nI 0), .int (bI false)]) (kt_L_copies l D C K kL kH ad hAp x F hs G T b 5 0 false (by first | rfl | assumption | omega) (by first | rfl | assumption | omega)) gL_areMissing_L_copies rfl ⟨rfl, rfl⟩ yd_L_copies ⟨Nat.le_of_ble_eq_true rfl, Nat.le_of_ble_eq_true rfl⟩ rfl rfl (Nat.le_of_ble_eq_true rfl) ⟨Nat.le_of_ble_eq_true rfl, Nat.le_of_ble_eq_true rfl⟩ dL_areMissing_4 ?_
  rintro ⟨x1, ⟨F1, hs1, G1, T1⟩, b1⟩ hu1
  have hv1 := hu1
  cases hv1
  refine zz_world (P' := (LPo D C K kL kH (x, (F, (sS hs 5 (fun i => false ^^ hM hs 0 i)), G, T), b))) (fun _ h => h) ?_
  obtain ⟨hs2, eh2⟩ : ∃ h, h = sS hs 5 (fun i => false ^^ hM hs 0 i) := ⟨_, rfl⟩
  refine zz_world (P' := (LPo D C K kL kH (x, (F, hs2, G, T), b))) (lp_hs eh2.symm) ?_
  have g2_5 : ∀ i, i < 1024 → hM hs2 5 i = ((hM hs 0 i)) := fun i hi => (by rw [eh2]; exact hM_sS hi : hM hs2 5 i = (fun i => false ^^ hM hs 0 i) i).trans ((fun i hi => (Bool.false_xor _).trans ((fun _ _ => rfl) i hi)) i hi)
  have g2_0 : ∀ i, i < 1024 → hM hs2 0 i = (hM hs 0 i) := fun i hi => (by rw [eh2]; exact hM_sSo (by omega) hi : hM hs2 0 i = hM hs 0 i).trans ((fun _ _ => rfl) i hi)
  have g2_1 : ∀ i, i < 1024 → hM hs2 1 i = (hM hs 1 i) := fun i hi => (by rw [eh2]; exact hM_sSo (by omega) hi : hM hs2 1 i = hM hs 1 i).trans ((fun _ _ => rfl) i hi)
  have g2_2 : ∀ i, i < 1024 → hM hs2 2 i = (hM hs 2 i) := fun i hi => (by rw [eh2]; exact hM_sSo (by omega) hi : hM hs2 2 i = hM hs 2 i).trans ((fun _ _ => rfl) i hi)
  have rd2 : RD hs2 b := eh2 ▸ RD_sS hrd (by omega)
  have hdm : ∀ i, i < 1024 → pX (fun i => pJ 124 (hM hs 0 i) (hM hs 1 i)) 0 1024 i = pJ 38 (!(hM hs 0 i)) (!(hM hs 1 i)) := fun i hi => by unfold pX; rw [if_pos ⟨Nat.zero_le _, hi⟩]; show (!(pJ 124 (hM hs 0 i) (hM hs 1 i))) = _; cases hM hs 0 i <;> cases hM hs 1 i <;> rfl
  have e00 := ct_flip (q := fun i => pJ 124 (hM hs 0 i) (hM hs 1 i))
  have e01 : ct (pX (fun i => pJ 124 (hM hs 0 i) (hM hs 1 i)) 0 1024) 1024 = ct (fun i => pJ 38 (!(hM hs 0 i)) (!(hM hs 1 i))) 1024 := ct_cong hdm
  refine zz_iload_n 7 X.1 1 dL_areMissing_7 rfl ?_
  refine zz_ifB_eq 8 23 X.1 dL_areMissing_8 (by decide) (fun h8 => ?_) (fun h8 => ?_)
  · exact absurd h8 (by decide)
  · skip
    refine zz_aload_n 11 X.1 0 dL_areMissing_11 rfl ?_
    refine ll_get 12 X (by decide +kernel) 1 (by decide) (v := .ref (K 0)) rfl (by decide +kernel) rfl dL_areMissing_12 ?_
    refine zz_iconst 15 X.1 (v := nI 5) dL_areMissing_15 rfl ?_
    refine zz_iconst 16 X.1 (v := nI 1) dL_areMissing_16 rfl ?_
    refine ll_callDi 17 X hml hAp (As := [.int (nI 5), .int (nI 1)]) (kt_X6_unite_ok l D C K hAp.1 F hs2 G T 5 1 (by first | rfl | assumption | omega) (by first | rfl | assumption | omega)) gL_areMissing_X6_unite rfl ⟨rfl, rfl⟩ yd_X6_unite ⟨Nat.le_of_ble_eq_true rfl, Nat.le_of_ble_eq_true rfl⟩ rfl rfl (Nat.le_of_ble_eq_true rfl) ⟨Nat.le_of_ble_eq_true rfl, Nat.le_of_ble_eq_true rfl⟩ dL_areMissing_17 ?_
    rintro r3 ⟨F3, hs3, G3, T3⟩ hu3
    obtain ⟨rfl, hv3⟩ := hu3
    cases hv3
    refine zz_world (P' := (LPo D C K kL kH (x, (F, (sS hs2 5 (fun i => pJ 124 (hM hs2 5 i) (hM hs2 1 i))), G, T), b))) (fun _ h => h) ?_
    obtain ⟨hs4, eh4⟩ : ∃ h, h = sS hs2 5 (fun i => pJ 124 (hM hs2 5 i) (hM hs2 1 i)) := ⟨_, rfl⟩
    refine zz_world (P' := (LPo D C K kL kH (x, (F, hs4, G, T), b))) (lp_hs eh4.symm) ?_
    have g4_5 : ∀ i, i < 1024 → hM hs4 5 i = (pJ 124 ((hM hs 0 i)) (hM hs 1 i)) := fun i hi => (by rw [eh4]; exact hM_sS hi : hM hs4 5 i = (fun i => pJ 124 (hM hs2 5 i) (hM hs2 1 i)) i).trans ((fun i hi => cg2 (g2_5 i hi) (g2_1 i hi)) i hi)
    have g4_0 : ∀ i, i < 1024 → hM hs4 0 i = (hM hs 0 i) := fun i hi => (by rw [eh4]; exact hM_sSo (by omega) hi : hM hs4 0 i = hM hs2 0 i).trans (g2_0 i hi)
    have g4_1 : ∀ i, i < 1024 → hM hs4 1 i = (hM hs 1 i) := fun i hi => (by rw [eh4]; exact hM_sSo (by omega) hi : hM hs4 1 i = hM hs2 1 i).trans (g2_1 i hi)
    have g4_2 : ∀ i, i < 1024 → hM hs4 2 i = (hM hs 2 i) := fun i hi => (by rw [eh4]; exact hM_sSo (by omega) hi : hM hs4 2 i = hM hs2 2 i).trans (g2_2 i hi)
    have rd4 : RD hs4 b := eh4 ▸ RD_sS rd2 (by omega)
    refine zz_topi (nI (ct (fun i => pJ 124 ((hM hs 0 i)) (hM hs 1 i)) 1024)) (congrArg nI (ct_cong (fun i hi => cg2 (g2_5 i hi) (g2_1 i hi)))) ?_
    refine zz_goto 20 32 X.1 dL_areMissing_20 (by decide) ?_
    refine zz_istore_n 32 X.1 (lv' := [(2, .int (nI (ct (fun i => pJ 124 ((hM hs 0 i)) (hM hs 1 i)) 1024))), (0, .ref kL), (1, .int (bI true))]) dL_areMissing_32 (by decide) rfl ?_
    refine zz_iload_n 33 X.1 0 dL_areMissing_33 rfl ?_
    refine zz_aload_n 34 X.1 1 dL_areMissing_34 rfl ?_
    refine ll_get 35 X (by decide +kernel) 1 (by decide) (v := .ref (K 0)) rfl (by decide +kernel) rfl dL_areMissing_35 ?_
    refine zz_iconst 38 X.1 (v := nI 5) dL_areMissing_38 rfl ?_
    refine ll_callDi 39 X hml hAp (As := [.int (nI 5)]) (kt_X6_count_ok l D C K hAp.1 F hs4 G T 5 (by first | rfl | assumption | omega)) gL_areMissing_X6_count rfl ⟨rfl, rfl⟩ yd_X6_count ⟨Nat.le_of_ble_eq_true rfl, Nat.le_of_ble_eq_true rfl⟩ rfl rfl (Nat.le_of_ble_eq_true rfl) ⟨Nat.le_of_ble_eq_true rfl, Nat.le_of_ble_eq_true rfl⟩ dL_areMissing_39 ?_
    rintro r5 ⟨F5, hs5, G5, T5⟩ hu5
    obtain ⟨rfl, hv5⟩ := hu5
    cases hv5
    refine zz_world (P' := (LPo D C K kL kH (x, (F, hs4, G, T), b))) (fun _ h => h) ?_
    refine zz_topi (nI (ct (fun i => pJ 124 ((hM hs 0 i)) (hM hs 1 i)) 1024)) (congrArg nI (ct_cong g4_5)) ?_
    refine zz_icmp_ne 42 84 X.1 (nI_toInt (by omega)) (nI_toInt (by omega)) dL_areMissing_42 (by decide) (fun h42 => ?_) (fun h42 => ?_)
    · exfalso; omega
    · skip
      refine zz_aload_n 45 X.1 1 dL_areMissing_45 rfl ?_
      refine zz_iconst 46 X.1 (v := nI 5) dL_areMissing_46 rfl ?_
      refine zz_iload_n 47 X.1 2 dL_areMissing_47 rfl ?_
      refine zz_ifB_eq 48 56 X.1 dL_areMissing_48 (by decide) (fun h48 => ?_) (fun h48 => ?_)
      · exact absurd h48 (by decide)
      · skip
        refine zz_bipush 51 X.1 (v := nI 124) dL_areMissing_51 rfl ?_
        refine zz_goto 53 58 X.1 dL_areMissing_53 (by decide) ?_
        refine ll_callLi 58 X hLA hml (As := [.int (nI 5), .int (nI 124)]) (kt_L_isMade l D C K kL kH ad hAp x F hs4 G T b 5 124 (by first | rfl | assumption | omega) (by first | rfl | assumption | omega) (fun i hi => by rw [g4_5 i hi, rd4 i (by omega), rd4 (1024 + i) (by omega)]; first | (show _ = du 124 (_) (_); rw [← show hM hs4 0 i = hs4 i from congrArg hs4 (by omega), ← show hM hs4 1 i = hs4 (1024 + i) from congrArg hs4 (by omega), g4_0 i hi, g4_1 i hi]; simp [pJ, du]; done))) gL_areMissing_L_isMade rfl ⟨rfl, rfl⟩ yd_L_isMade ⟨Nat.le_of_ble_eq_true rfl, Nat.le_of_ble_eq_true rfl⟩ rfl rfl (Nat.le_of_ble_eq_true rfl) ⟨Nat.le_of_ble_eq_true rfl, Nat.le_of_ble_eq_true rfl⟩ dL_areMissing_58 ?_
        rintro r6 ⟨x6, ⟨F6, hs6, G6, T6⟩, b6⟩ hu6
        obtain ⟨rfl, hv6⟩ := hu6
        cases hv6
        refine zz_world (P' := (LPo D C K kL kH (x, (F, hs4, G, T), b))) (fun _ h => h) ?_
        refine zz_ifB_eq 61 84 X.1 dL_areMissing_61 (by decide) (fun h61 => ?_) (fun h61 => ?_)
        · exact absurd h61 (by decide)
        · skip
          refine zz_aload_n 64 X.1 1 dL_areMissing_64 rfl ?_
          refine ll_get 65 X (by decide +kernel) 1 (by decide) (v := .ref (K 0)) rfl (by decide +kernel) rfl dL_areMissing_65 ?_
          refine zz_iconst 68 X.1 (v := nI 5) dL_areMissing_68 rfl ?_
          refine zz_iconst 69 X.1 (v := nI 0) dL_areMissing_69 rfl ?_
          refine zz_sipush 70 X.1 (v := nI 1024) dL_areMissing_70 rfl ?_
          refine ll_callDi 73 X hml hAp (As := [.int (nI 5), .int (nI 0), .int (nI 1024)]) (kt_X6_flipRange_ok l D C K hAp.1 F hs4 G T 5 0 1024 (by first | rfl | assumption | omega) (by first | rfl | assumption | omega)) gL_areMissing_X6_flipRange rfl ⟨rfl, rfl⟩ yd_X6_flipRange ⟨Nat.le_of_ble_eq_true rfl, Nat.le_of_ble_eq_true rfl⟩ rfl rfl (Nat.le_of_ble_eq_true rfl) ⟨Nat.le_of_ble_eq_true rfl, Nat.le_of_ble_eq_true rfl⟩ dL_areMissing_73 ?_
          rintro r7 ⟨F7, hs7, G7, T7⟩ hu7
          obtain ⟨rfl, hv7⟩ := hu7
          cases hv7
          refine zz_world (P' := (LPo D C K kL kH (x, (F, (sS hs4 5 (pX (hM hs4 5) 0 1024)), G, T), b))) (fun _ h => h) ?_
          obtain ⟨hs8, eh8⟩ : ∃ h, h = sS hs4 5 (pX (hM hs4 5) 0 1024) := ⟨_, rfl⟩
          refine zz_world (P' := (LPo D C K kL kH (x, (F, hs8, G, T), b))) (lp_hs eh8.symm) ?_
          have g8_5 : ∀ i, i < 1024 → hM hs8 5 i = (pX (fun i => pJ 124 ((hM hs 0 i)) (hM hs 1 i)) 0 1024 i) := fun i hi => (by rw [eh8]; exact hM_sS hi : hM hs8 5 i = (pX (hM hs4 5) 0 1024) i).trans ((pX_cong g4_5) i hi)
          have g8_0 : ∀ i, i < 1024 → hM hs8 0 i = (hM hs 0 i) := fun i hi => (by rw [eh8]; exact hM_sSo (by omega) hi : hM hs8 0 i = hM hs4 0 i).trans (g4_0 i hi)
          have g8_1 : ∀ i, i < 1024 → hM hs8 1 i = (hM hs 1 i) := fun i hi => (by rw [eh8]; exact hM_sSo (by omega) hi : hM hs8 1 i = hM hs4 1 i).trans (g4_1 i hi)
          have g8_2 : ∀ i, i < 1024 → hM hs8 2 i = (hM hs 2 i) := fun i hi => (by rw [eh8]; exact hM_sSo (by omega) hi : hM hs8 2 i = hM hs4 2 i).trans (g4_2 i hi)
          have rd8 : RD hs8 b := eh8 ▸ RD_sS rd4 (by omega)
          refine zz_topi (nI (ct (pX (fun i => pJ 124 ((hM hs 0 i)) (hM hs 1 i)) 0 1024) 1024)) (congrArg nI (ct_cong (pX_cong g4_5))) ?_
          refine zz_sipush 76 X.1 (v := nI 1024) dL_areMissing_76 rfl ?_
          refine zz_iload_n 79 X.1 0 dL_areMissing_79 rfl ?_
          refine zz_isub 80 X.1 (v := (nI (1024 - (ct (fun i => pJ 124 ((hM hs 0 i)) (hM hs 1 i)) 1024)))) dL_areMissing_80 (pk_sub (by omega)) ?_
          refine zz_icmp_eq 81 86 X.1 (nI_toInt (by omega)) (nI_toInt (by omega)) dL_areMissing_81 (by decide) (fun h81 => ?_) (fun h81 => ?_)
          · skip
            refine zz_aload_n 86 X.1 1 dL_areMissing_86 rfl ?_
            refine zz_bipush 87 X.1 (v := nI 6) dL_areMissing_87 rfl ?_
            refine zz_iconst 89 X.1 (v := nI 0) dL_areMissing_89 rfl ?_
            refine zz_iconst 90 X.1 (v := nI 1) dL_areMissing_90 rfl ?_
            refine ll_callLv 91 X hLA hml (As := [.int (nI 6), .int (nI 0), .int (bI true)]) (kt_L_copies l D C K kL kH ad hAp x F hs8 G T b 6 0 true (by first | rfl | assumption | omega) (by first | rfl | assumption | omega)) gL_areMissing_L_copies rfl ⟨rfl, rfl⟩ yd_L_copies ⟨Nat.le_of_ble_eq_true rfl, Nat.le_of_ble_eq_true rfl⟩ rfl rfl (Nat.le_of_ble_eq_true rfl) ⟨Nat.le_of_ble_eq_true rfl, Nat.le_of_ble_eq_true rfl⟩ dL_areMissing_91 ?_
            rintro ⟨x9, ⟨F9, hs9, G9, T9⟩, b9⟩ hu9
            have hv9 := hu9
            cases hv9
            refine zz_world (P' := (LPo D C K kL kH (x, (F, (sS hs8 6 (fun i => true ^^ hM hs8 0 i)), G, T), b))) (fun _ h => h) ?_
            obtain ⟨hs10, eh10⟩ : ∃ h, h = sS hs8 6 (fun i => true ^^ hM hs8 0 i) := ⟨_, rfl⟩
            refine zz_world (P' := (LPo D C K kL kH (x, (F, hs10, G, T), b))) (lp_hs eh10.symm) ?_
            have g10_6 : ∀ i, i < 1024 → hM hs10 6 i = (!(hM hs 0 i)) := fun i hi => (by rw [eh10]; exact hM_sS hi : hM hs10 6 i = (fun i => true ^^ hM hs8 0 i) i).trans ((fun i hi => (Bool.true_xor _).trans (congrArg not (g8_0 i hi))) i hi)
            have g10_0 : ∀ i, i < 1024 → hM hs10 0 i = (hM hs 0 i) := fun i hi => (by rw [eh10]; exact hM_sSo (by omega) hi : hM hs10 0 i = hM hs8 0 i).trans (g8_0 i hi)
            have g10_1 : ∀ i, i < 1024 → hM hs10 1 i = (hM hs 1 i) := fun i hi => (by rw [eh10]; exact hM_sSo (by omega) hi : hM hs10 1 i = hM hs8 1 i).trans (g8_1 i hi)
            have g10_2 : ∀ i, i < 1024 → hM hs10 2 i = (hM hs 2 i) := fun i hi => (by rw [eh10]; exact hM_sSo (by omega) hi : hM hs10 2 i = hM hs8 2 i).trans (g8_2 i hi)
            have g10_5 : ∀ i, i < 1024 → hM hs10 5 i = (pX (fun i => pJ 124 ((hM hs 0 i)) (hM hs 1 i)) 0 1024 i) := fun i hi => (by rw [eh10]; exact hM_sSo (by omega) hi : hM hs10 5 i = hM hs8 5 i).trans (g8_5 i hi)
            have rd10 : RD hs10 b := eh10 ▸ RD_sS rd8 (by omega)
            refine zz_aload_n 94 X.1 1 dL_areMissing_94 rfl ?_
            refine zz_bipush 95 X.1 (v := nI 6) dL_areMissing_95 rfl ?_
            refine zz_bipush 97 X.1 (v := nI 45) dL_areMissing_97 rfl ?_
            refine ll_callLi 99 X hLA hml (As := [.int (nI 6), .int (nI 45)]) (kt_L_isMade l D C K kL kH ad hAp x F hs10 G T b 6 45 (by first | rfl | assumption | omega) (by first | rfl | assumption | omega) (fun i hi => by rw [g10_6 i hi, rd10 i (by omega), rd10 (1024 + i) (by omega)]; first | (show _ = du 45 (_) (_); rw [← show hM hs10 0 i = hs10 i from congrArg hs10 (by omega), ← show hM hs10 1 i = hs10 (1024 + i) from congrArg hs10 (by omega), g10_0 i hi, g10_1 i hi]; simp [pJ, du]; done))) gL_areMissing_L_isMade rfl ⟨rfl, rfl⟩ yd_L_isMade ⟨Nat.le_of_ble_eq_true rfl, Nat.le_of_ble_eq_true rfl⟩ rfl rfl (Nat.le_of_ble_eq_true rfl) ⟨Nat.le_of_ble_eq_true rfl, Nat.le_of_ble_eq_true rfl⟩ dL_areMissing_99 ?_
            rintro r11 ⟨x11, ⟨F11, hs11, G11, T11⟩, b11⟩ hu11
            obtain ⟨rfl, hv11⟩ := hu11
            cases hv11
            refine zz_world (P' := (LPo D C K kL kH (x, (F, hs10, G, T), b))) (fun _ h => h) ?_
            refine zz_ifB_ne 102 107 X.1 dL_areMissing_102 (by decide) (fun h102 => ?_) (fun h102 => ?_)
            · skip
              refine zz_aload_n 107 X.1 1 dL_areMissing_107 rfl ?_
              refine zz_bipush 108 X.1 (v := nI 7) dL_areMissing_108 rfl ?_
              refine zz_iconst 110 X.1 (v := nI 1) dL_areMissing_110 rfl ?_
              refine zz_iconst 111 X.1 (v := nI 1) dL_areMissing_111 rfl ?_
              refine ll_callLv 112 X hLA hml (As := [.int (nI 7), .int (nI 1), .int (bI true)]) (kt_L_copies l D C K kL kH ad hAp x F hs10 G T b 7 1 true (by first | rfl | assumption | omega) (by first | rfl | assumption | omega)) gL_areMissing_L_copies rfl ⟨rfl, rfl⟩ yd_L_copies ⟨Nat.le_of_ble_eq_true rfl, Nat.le_of_ble_eq_true rfl⟩ rfl rfl (Nat.le_of_ble_eq_true rfl) ⟨Nat.le_of_ble_eq_true rfl, Nat.le_of_ble_eq_true rfl⟩ dL_areMissing_112 ?_
              rintro ⟨x12, ⟨F12, hs12, G12, T12⟩, b12⟩ hu12
              have hv12 := hu12
              cases hv12
              refine zz_world (P' := (LPo D C K kL kH (x, (F, (sS hs10 7 (fun i => true ^^ hM hs10 1 i)), G, T), b))) (fun _ h => h) ?_
              obtain ⟨hs13, eh13⟩ : ∃ h, h = sS hs10 7 (fun i => true ^^ hM hs10 1 i) := ⟨_, rfl⟩
              refine zz_world (P' := (LPo D C K kL kH (x, (F, hs13, G, T), b))) (lp_hs eh13.symm) ?_
              have g13_7 : ∀ i, i < 1024 → hM hs13 7 i = (!(hM hs 1 i)) := fun i hi => (by rw [eh13]; exact hM_sS hi : hM hs13 7 i = (fun i => true ^^ hM hs10 1 i) i).trans ((fun i hi => (Bool.true_xor _).trans (congrArg not (g10_1 i hi))) i hi)
              have g13_0 : ∀ i, i < 1024 → hM hs13 0 i = (hM hs 0 i) := fun i hi => (by rw [eh13]; exact hM_sSo (by omega) hi : hM hs13 0 i = hM hs10 0 i).trans (g10_0 i hi)
              have g13_1 : ∀ i, i < 1024 → hM hs13 1 i = (hM hs 1 i) := fun i hi => (by rw [eh13]; exact hM_sSo (by omega) hi : hM hs13 1 i = hM hs10 1 i).trans (g10_1 i hi)
              have g13_2 : ∀ i, i < 1024 → hM hs13 2 i = (hM hs 2 i) := fun i hi => (by rw [eh13]; exact hM_sSo (by omega) hi : hM hs13 2 i = hM hs10 2 i).trans (g10_2 i hi)
              have g13_5 : ∀ i, i < 1024 → hM hs13 5 i = (pX (fun i => pJ 124 ((hM hs 0 i)) (hM hs 1 i)) 0 1024 i) := fun i hi => (by rw [eh13]; exact hM_sSo (by omega) hi : hM hs13 5 i = hM hs10 5 i).trans (g10_5 i hi)
              have g13_6 : ∀ i, i < 1024 → hM hs13 6 i = (!(hM hs 0 i)) := fun i hi => (by rw [eh13]; exact hM_sSo (by omega) hi : hM hs13 6 i = hM hs10 6 i).trans (g10_6 i hi)
              have rd13 : RD hs13 b := eh13 ▸ RD_sS rd10 (by omega)
              refine zz_iload_n 115 X.1 2 dL_areMissing_115 rfl ?_
              refine zz_ifB_eq 116 133 X.1 dL_areMissing_116 (by decide) (fun h116 => ?_) (fun h116 => ?_)
              · exact absurd h116 (by decide)
              · skip
                refine zz_aload_n 119 X.1 1 dL_areMissing_119 rfl ?_
                refine ll_get 120 X (by decide +kernel) 1 (by decide) (v := .ref (K 0)) rfl (by decide +kernel) rfl dL_areMissing_120 ?_
                refine zz_bipush 123 X.1 (v := nI 6) dL_areMissing_123 rfl ?_
                refine zz_bipush 125 X.1 (v := nI 7) dL_areMissing_125 rfl ?_
                refine ll_callDi 127 X hml hAp (As := [.int (nI 6), .int (nI 7)]) (kt_X6_intersect_ok l D C K hAp.1 F hs13 G T 6 7 (by first | rfl | assumption | omega) (by first | rfl | assumption | omega)) gL_areMissing_X6_intersect rfl ⟨rfl, rfl⟩ yd_X6_intersect ⟨Nat.le_of_ble_eq_true rfl, Nat.le_of_ble_eq_true rfl⟩ rfl rfl (Nat.le_of_ble_eq_true rfl) ⟨Nat.le_of_ble_eq_true rfl, Nat.le_of_ble_eq_true rfl⟩ dL_areMissing_127 ?_
                rintro r14 ⟨F14, hs14, G14, T14⟩ hu14
                obtain ⟨rfl, hv14⟩ := hu14
                cases hv14
                refine zz_world (P' := (LPo D C K kL kH (x, (F, (sS hs13 6 (fun i => pJ 38 (hM hs13 6 i) (hM hs13 7 i))), G, T), b))) (fun _ h => h) ?_
                obtain ⟨hs15, eh15⟩ : ∃ h, h = sS hs13 6 (fun i => pJ 38 (hM hs13 6 i) (hM hs13 7 i)) := ⟨_, rfl⟩
                refine zz_world (P' := (LPo D C K kL kH (x, (F, hs15, G, T), b))) (lp_hs eh15.symm) ?_
                have g15_6 : ∀ i, i < 1024 → hM hs15 6 i = (pJ 38 (!(hM hs 0 i)) (!(hM hs 1 i))) := fun i hi => (by rw [eh15]; exact hM_sS hi : hM hs15 6 i = (fun i => pJ 38 (hM hs13 6 i) (hM hs13 7 i)) i).trans ((fun i hi => cg2 (g13_6 i hi) (g13_7 i hi)) i hi)
                have g15_0 : ∀ i, i < 1024 → hM hs15 0 i = (hM hs 0 i) := fun i hi => (by rw [eh15]; exact hM_sSo (by omega) hi : hM hs15 0 i = hM hs13 0 i).trans (g13_0 i hi)
                have g15_1 : ∀ i, i < 1024 → hM hs15 1 i = (hM hs 1 i) := fun i hi => (by rw [eh15]; exact hM_sSo (by omega) hi : hM hs15 1 i = hM hs13 1 i).trans (g13_1 i hi)
                have g15_2 : ∀ i, i < 1024 → hM hs15 2 i = (hM hs 2 i) := fun i hi => (by rw [eh15]; exact hM_sSo (by omega) hi : hM hs15 2 i = hM hs13 2 i).trans (g13_2 i hi)
                have g15_5 : ∀ i, i < 1024 → hM hs15 5 i = (pX (fun i => pJ 124 ((hM hs 0 i)) (hM hs 1 i)) 0 1024 i) := fun i hi => (by rw [eh15]; exact hM_sSo (by omega) hi : hM hs15 5 i = hM hs13 5 i).trans (g13_5 i hi)
                have g15_7 : ∀ i, i < 1024 → hM hs15 7 i = (!(hM hs 1 i)) := fun i hi => (by rw [eh15]; exact hM_sSo (by omega) hi : hM hs15 7 i = hM hs13 7 i).trans (g13_7 i hi)
                have rd15 : RD hs15 b := eh15 ▸ RD_sS rd13 (by omega)
                refine zz_topi (nI (ct (fun i => pJ 38 (!(hM hs 0 i)) (!(hM hs 1 i))) 1024)) (congrArg nI (ct_cong (fun i hi => cg2 (g13_6 i hi) (g13_7 i hi)))) ?_
                refine zz_goto 130 144 X.1 dL_areMissing_130 (by decide) ?_
                refine zz_istore_n 144 X.1 (lv' := [(3, .int (nI (ct (fun i => pJ 38 (!(hM hs 0 i)) (!(hM hs 1 i))) 1024))), (2, .int (nI (ct (fun i => pJ 124 ((hM hs 0 i)) (hM hs 1 i)) 1024))), (0, .ref kL), (1, .int (bI true))]) dL_areMissing_144 (by decide) rfl ?_
                refine zz_iload_n 145 X.1 0 dL_areMissing_145 rfl ?_
                refine zz_sipush 146 X.1 (v := nI 1024) dL_areMissing_146 rfl ?_
                refine zz_iload_n 149 X.1 1 dL_areMissing_149 rfl ?_
                refine zz_isub 150 X.1 (v := (nI (1024 - (ct (fun i => pJ 124 ((hM hs 0 i)) (hM hs 1 i)) 1024)))) dL_areMissing_150 (pk_sub (by omega)) ?_
                refine zz_icmp_ne 151 204 X.1 (nI_toInt (by omega)) (nI_toInt (by omega)) dL_areMissing_151 (by decide) (fun h151 => ?_) (fun h151 => ?_)
                · exfalso; omega
                · skip
                  refine zz_aload_n 154 X.1 2 dL_areMissing_154 rfl ?_
                  refine ll_get 155 X (by decide +kernel) 1 (by decide) (v := .ref (K 0)) rfl (by decide +kernel) rfl dL_areMissing_155 ?_
                  refine zz_iconst 158 X.1 (v := nI 5) dL_areMissing_158 rfl ?_
                  refine zz_bipush 159 X.1 (v := nI 6) dL_areMissing_159 rfl ?_
                  refine ll_callDi 161 X hml hAp (As := [.int (nI 5), .int (nI 6)]) (kt_X6_areEqual_ok l D C K hAp.1 F hs15 G T 5 6 (by first | rfl | assumption | omega) (by first | rfl | assumption | omega)) gL_areMissing_X6_areEqual rfl ⟨rfl, rfl⟩ yd_X6_areEqual ⟨Nat.le_of_ble_eq_true rfl, Nat.le_of_ble_eq_true rfl⟩ rfl rfl (Nat.le_of_ble_eq_true rfl) ⟨Nat.le_of_ble_eq_true rfl, Nat.le_of_ble_eq_true rfl⟩ dL_areMissing_161 ?_
                  rintro r16 ⟨F16, hs16, G16, T16⟩ hu16
                  obtain ⟨rfl, hv16⟩ := hu16
                  cases hv16
                  refine zz_world (P' := (LPo D C K kL kH (x, (F, hs15, G, T), b))) (fun _ h => h) ?_
                  refine zz_ifB_eq 164 204 X.1 dL_areMissing_164 (by decide) (fun h164 => ?_) (fun h164 => ?_)
                  · exfalso; exact absurd ((eq_t (fun i hi => by rw [g15_5 i hi, g15_6 i hi]; exact hdm i hi)).symm.trans h164) (by decide)
                  · skip
                    refine zz_aload_n 167 X.1 2 dL_areMissing_167 rfl ?_
                    refine ll_get 168 X (by decide +kernel) 1 (by decide) (v := .ref (K 0)) rfl (by decide +kernel) rfl dL_areMissing_168 ?_
                    refine zz_bipush 171 X.1 (v := nI 6) dL_areMissing_171 rfl ?_
                    refine zz_iconst 173 X.1 (v := nI 5) dL_areMissing_173 rfl ?_
                    refine ll_callDi 174 X hml hAp (As := [.int (nI 6), .int (nI 5)]) (kt_X6_areEqual_ok l D C K hAp.1 F hs15 G T 6 5 (by first | rfl | assumption | omega) (by first | rfl | assumption | omega)) gL_areMissing_X6_areEqual rfl ⟨rfl, rfl⟩ yd_X6_areEqual ⟨Nat.le_of_ble_eq_true rfl, Nat.le_of_ble_eq_true rfl⟩ rfl rfl (Nat.le_of_ble_eq_true rfl) ⟨Nat.le_of_ble_eq_true rfl, Nat.le_of_ble_eq_true rfl⟩ dL_areMissing_174 ?_
                    rintro r17 ⟨F17, hs17, G17, T17⟩ hu17
                    obtain ⟨rfl, hv17⟩ := hu17
                    cases hv17
                    refine zz_world (P' := (LPo D C K kL kH (x, (F, hs15, G, T), b))) (fun _ h => h) ?_
                    refine zz_ifB_eq 177 204 X.1 dL_areMissing_177 (by decide) (fun h177 => ?_) (fun h177 => ?_)
                    · exfalso; exact absurd ((eq_t (fun i hi => by rw [g15_5 i hi, g15_6 i hi]; exact (hdm i hi).symm)).symm.trans h177) (by decide)
                    · skip
                      refine zz_aload_n 180 X.1 2 dL_areMissing_180 rfl ?_
                      refine ll_get 181 X (by decide +kernel) 1 (by decide) (v := .ref (K 0)) rfl (by decide +kernel) rfl dL_areMissing_181 ?_
                      refine zz_iconst 184 X.1 (v := nI 5) dL_areMissing_184 rfl ?_
                      refine ll_callDi 185 X hml hAp (As := [.int (nI 5)]) (kt_X6_fingerprint_ok l D C K hAp.1 F hs15 G T 5 (by first | rfl | assumption | omega)) gL_areMissing_X6_fingerprint rfl ⟨rfl, rfl⟩ yd_X6_fingerprint ⟨Nat.le_of_ble_eq_true rfl, Nat.le_of_ble_eq_true rfl⟩ rfl rfl (Nat.le_of_ble_eq_true rfl) ⟨Nat.le_of_ble_eq_true rfl, Nat.le_of_ble_eq_true rfl⟩ dL_areMissing_185 ?_
                      rintro r18 ⟨F18, hs18, G18, T18⟩ hu18
                      obtain ⟨rfl, hv18⟩ := hu18
                      cases hv18
                      refine zz_world (P' := (LPo D C K kL kH (x, (F, hs15, G, T), b))) (fun _ h => h) ?_
                      refine zz_aload_n 188 X.1 2 dL_areMissing_188 rfl ?_
                      refine ll_get 189 X (by decide +kernel) 1 (by decide) (v := .ref (K 0)) rfl (by decide +kernel) rfl dL_areMissing_189 ?_
                      refine zz_bipush 192 X.1 (v := nI 6) dL_areMissing_192 rfl ?_
                      refine ll_callDi 194 X hml hAp (As := [.int (nI 6)]) (kt_X6_fingerprint_ok l D C K hAp.1 F hs15 G T 6 (by first | rfl | assumption | omega)) gL_areMissing_X6_fingerprint rfl ⟨rfl, rfl⟩ yd_X6_fingerprint ⟨Nat.le_of_ble_eq_true rfl, Nat.le_of_ble_eq_true rfl⟩ rfl rfl (Nat.le_of_ble_eq_true rfl) ⟨Nat.le_of_ble_eq_true rfl, Nat.le_of_ble_eq_true rfl⟩ dL_areMissing_194 ?_
                      rintro r19 ⟨F19, hs19, G19, T19⟩ hu19
                      obtain ⟨rfl, hv19⟩ := hu19
                      cases hv19
                      refine zz_world (P' := (LPo D C K kL kH (x, (F, hs15, G, T), b))) (fun _ h => h) ?_
                      refine zz_icmp_ne 197 204 X.1 rfl rfl dL_areMissing_197 (by decide) (fun h197 => ?_) (fun h197 => ?_)
                      · exfalso; exact h197 (congrArg Int32.toInt (fpr_cong (fun i hi => by rw [g15_5 i hi, g15_6 i hi]; exact hdm i hi)))
                      · skip
                        refine zz_iconst 200 X.1 (v := nI 1) dL_areMissing_200 rfl ?_
                        refine zz_goto 201 205 X.1 dL_areMissing_201 (by decide) ?_
                        refine zz_topi (bI true) rfl ?_
                        rw [← hQ]
                        refine zz_iret 205 X.1 hr (bI_nar _) hlk (x, (F, hs15, G, T), b) ?_ (fun _ h _ => h) dL_areMissing_205
                        exact ⟨_, rfl, rfl, rd15⟩
            · exact absurd h102 (by decide)
          · exfalso; omega

set_option maxHeartbeats 4000000 in
set_option maxRecDepth 100000 in
theorem kt_L_areMissing_f (l : Launch) (D : va_G) (C : Nat → ClassId) (K : Nat → Nat) (kL kH : Nat) (ad : Nat → Nat) (hAp : LAp K kL kH) (x : Int32) (F : Nat → Int32) (hs : Nat → Bool) (G T : Nat → Nat → Int32) (b : Nat → Bool)  (hrd : RD hs b) : LMi l yL_areMissing wsL_areMissing rm_L_areMissing D C K kL kH ad 0 0 [.int (bI false)] x F hs G T b (fun (r : Int32) (q : LSt) => ∃ (hs1 : Nat → Bool), r = (bI true) ∧ q = (x, (F, hs1, G, T), b) ∧ RD hs1 b) := by
  refine LMi_of (lv := [(0, .ref kL), (1, .int (bI false))]) (cc := cL_areMissing) (maxL := 4) (ret := (some .boolean)) rfl (by decide +kernel) (Nat.le_of_ble_eq_true rfl) rfl ?_
  intro p e s m args below meth c X hLA hml hr hlk
  generalize hQ : MQ below _ args s 0 0 _ = Q
  refine zz_aload_n 0 X.1 0 dL_areMissing_0 rfl ?_
  refine zz_iconst 1 X.1 (v := nI 5) dL_areMissing_1 rfl ?_
  refine zz_iconst 2 X.1 (v := nI 0) dL_areMissing_2 rfl ?_
  refine zz_iconst 3 X.1 (v := nI 0) dL_areMissing_3 rfl ?_
  refine ll_callLv 4 X hLA hml (As := [.int (nI 5), .int (nI 0), .int (bI false)]) (kt_L_copies l D C K kL kH ad hAp x F hs G T b 5 0 false (by first | rfl | assumption | omega) (by first | rfl | assumption | omega)) gL_areMissing_L_copies rfl ⟨rfl, rfl⟩ yd_L_copies ⟨Nat.le_of_ble_eq_true rfl, Nat.le_of_ble_eq_true rfl⟩ rfl rfl (Nat.le_of_ble_eq_true rfl) ⟨Nat.le_of_ble_eq_true rfl, Nat.le_of_ble_eq_true rfl⟩ dL_areMissing_4 ?_
  rintro ⟨x1, ⟨F1, hs1, G1, T1⟩, b1⟩ hu1
  have hv1 := hu1
  cases hv1
  refine zz_world (P' := (LPo D C K kL kH (x, (F, (sS hs 5 (fun i => false ^^ hM hs 0 i)), G, T), b))) (fun _ h => h) ?_
  obtain ⟨hs2, eh2⟩ : ∃ h, h = sS hs 5 (fun i => false ^^ hM hs 0 i) := ⟨_, rfl⟩
  refine zz_world (P' := (LPo D C K kL kH (x, (F, hs2, G, T), b))) (lp_hs eh2.symm) ?_
  have g2_5 : ∀ i, i < 1024 → hM hs2 5 i = ((hM hs 0 i)) := fun i hi => (by rw [eh2]; exact hM_sS hi : hM hs2 5 i = (fun i => false ^^ hM hs 0 i) i).trans ((fun i hi => (Bool.false_xor _).trans ((fun _ _ => rfl) i hi)) i hi)
  have g2_0 : ∀ i, i < 1024 → hM hs2 0 i = (hM hs 0 i) := fun i hi => (by rw [eh2]; exact hM_sSo (by omega) hi : hM hs2 0 i = hM hs 0 i).trans ((fun _ _ => rfl) i hi)
  have g2_1 : ∀ i, i < 1024 → hM hs2 1 i = (hM hs 1 i) := fun i hi => (by rw [eh2]; exact hM_sSo (by omega) hi : hM hs2 1 i = hM hs 1 i).trans ((fun _ _ => rfl) i hi)
  have g2_2 : ∀ i, i < 1024 → hM hs2 2 i = (hM hs 2 i) := fun i hi => (by rw [eh2]; exact hM_sSo (by omega) hi : hM hs2 2 i = hM hs 2 i).trans ((fun _ _ => rfl) i hi)
  have rd2 : RD hs2 b := eh2 ▸ RD_sS hrd (by omega)
  have hdm : ∀ i, i < 1024 → pX (fun i => pJ 38 (hM hs 0 i) (hM hs 1 i)) 0 1024 i = pJ 124 (!(hM hs 0 i)) (!(hM hs 1 i)) := fun i hi => by unfold pX; rw [if_pos ⟨Nat.zero_le _, hi⟩]; show (!(pJ 38 (hM hs 0 i) (hM hs 1 i))) = _; cases hM hs 0 i <;> cases hM hs 1 i <;> rfl
  have e00 := ct_flip (q := fun i => pJ 38 (hM hs 0 i) (hM hs 1 i))
  have e01 : ct (pX (fun i => pJ 38 (hM hs 0 i) (hM hs 1 i)) 0 1024) 1024 = ct (fun i => pJ 124 (!(hM hs 0 i)) (!(hM hs 1 i))) 1024 := ct_cong hdm
  refine zz_iload_n 7 X.1 1 dL_areMissing_7 rfl ?_
  refine zz_ifB_eq 8 23 X.1 dL_areMissing_8 (by decide) (fun h8 => ?_) (fun h8 => ?_)
  · skip
    refine zz_aload_n 23 X.1 0 dL_areMissing_23 rfl ?_
    refine ll_get 24 X (by decide +kernel) 1 (by decide) (v := .ref (K 0)) rfl (by decide +kernel) rfl dL_areMissing_24 ?_
    refine zz_iconst 27 X.1 (v := nI 5) dL_areMissing_27 rfl ?_
    refine zz_iconst 28 X.1 (v := nI 1) dL_areMissing_28 rfl ?_
    refine ll_callDi 29 X hml hAp (As := [.int (nI 5), .int (nI 1)]) (kt_X6_intersect_ok l D C K hAp.1 F hs2 G T 5 1 (by first | rfl | assumption | omega) (by first | rfl | assumption | omega)) gL_areMissing_X6_intersect rfl ⟨rfl, rfl⟩ yd_X6_intersect ⟨Nat.le_of_ble_eq_true rfl, Nat.le_of_ble_eq_true rfl⟩ rfl rfl (Nat.le_of_ble_eq_true rfl) ⟨Nat.le_of_ble_eq_true rfl, Nat.le_of_ble_eq_true rfl⟩ dL_areMissing_29 ?_
    rintro r3 ⟨F3, hs3, G3, T3⟩ hu3
    obtain ⟨rfl, hv3⟩ := hu3
    cases hv3
    refine zz_world (P' := (LPo D C K kL kH (x, (F, (sS hs2 5 (fun i => pJ 38 (hM hs2 5 i) (hM hs2 1 i))), G, T), b))) (fun _ h => h) ?_
    obtain ⟨hs4, eh4⟩ : ∃ h, h = sS hs2 5 (fun i => pJ 38 (hM hs2 5 i) (hM hs2 1 i)) := ⟨_, rfl⟩
    refine zz_world (P' := (LPo D C K kL kH (x, (F, hs4, G, T), b))) (lp_hs eh4.symm) ?_
    have g4_5 : ∀ i, i < 1024 → hM hs4 5 i = (pJ 38 ((hM hs 0 i)) (hM hs 1 i)) := fun i hi => (by rw [eh4]; exact hM_sS hi : hM hs4 5 i = (fun i => pJ 38 (hM hs2 5 i) (hM hs2 1 i)) i).trans ((fun i hi => cg2 (g2_5 i hi) (g2_1 i hi)) i hi)
    have g4_0 : ∀ i, i < 1024 → hM hs4 0 i = (hM hs 0 i) := fun i hi => (by rw [eh4]; exact hM_sSo (by omega) hi : hM hs4 0 i = hM hs2 0 i).trans (g2_0 i hi)
    have g4_1 : ∀ i, i < 1024 → hM hs4 1 i = (hM hs 1 i) := fun i hi => (by rw [eh4]; exact hM_sSo (by omega) hi : hM hs4 1 i = hM hs2 1 i).trans (g2_1 i hi)
    have g4_2 : ∀ i, i < 1024 → hM hs4 2 i = (hM hs 2 i) := fun i hi => (by rw [eh4]; exact hM_sSo (by omega) hi : hM hs4 2 i = hM hs2 2 i).trans (g2_2 i hi)
    have rd4 : RD hs4 b := eh4 ▸ RD_sS rd2 (by omega)
    refine zz_topi (nI (ct (fun i => pJ 38 ((hM hs 0 i)) (hM hs 1 i)) 1024)) (congrArg nI (ct_cong (fun i hi => cg2 (g2_5 i hi) (g2_1 i hi)))) ?_
    refine zz_istore_n 32 X.1 (lv' := [(2, .int (nI (ct (fun i => pJ 38 ((hM hs 0 i)) (hM hs 1 i)) 1024))), (0, .ref kL), (1, .int (bI false))]) dL_areMissing_32 (by decide) rfl ?_
    refine zz_iload_n 33 X.1 0 dL_areMissing_33 rfl ?_
    refine zz_aload_n 34 X.1 1 dL_areMissing_34 rfl ?_
    refine ll_get 35 X (by decide +kernel) 1 (by decide) (v := .ref (K 0)) rfl (by decide +kernel) rfl dL_areMissing_35 ?_
    refine zz_iconst 38 X.1 (v := nI 5) dL_areMissing_38 rfl ?_
    refine ll_callDi 39 X hml hAp (As := [.int (nI 5)]) (kt_X6_count_ok l D C K hAp.1 F hs4 G T 5 (by first | rfl | assumption | omega)) gL_areMissing_X6_count rfl ⟨rfl, rfl⟩ yd_X6_count ⟨Nat.le_of_ble_eq_true rfl, Nat.le_of_ble_eq_true rfl⟩ rfl rfl (Nat.le_of_ble_eq_true rfl) ⟨Nat.le_of_ble_eq_true rfl, Nat.le_of_ble_eq_true rfl⟩ dL_areMissing_39 ?_
    rintro r5 ⟨F5, hs5, G5, T5⟩ hu5
    obtain ⟨rfl, hv5⟩ := hu5
    cases hv5
    refine zz_world (P' := (LPo D C K kL kH (x, (F, hs4, G, T), b))) (fun _ h => h) ?_
    refine zz_topi (nI (ct (fun i => pJ 38 ((hM hs 0 i)) (hM hs 1 i)) 1024)) (congrArg nI (ct_cong g4_5)) ?_
    refine zz_icmp_ne 42 84 X.1 (nI_toInt (by omega)) (nI_toInt (by omega)) dL_areMissing_42 (by decide) (fun h42 => ?_) (fun h42 => ?_)
    · exfalso; omega
    · skip
      refine zz_aload_n 45 X.1 1 dL_areMissing_45 rfl ?_
      refine zz_iconst 46 X.1 (v := nI 5) dL_areMissing_46 rfl ?_
      refine zz_iload_n 47 X.1 2 dL_areMissing_47 rfl ?_
      refine zz_ifB_eq 48 56 X.1 dL_areMissing_48 (by decide) (fun h48 => ?_) (fun h48 => ?_)
      · skip
        refine zz_bipush 56 X.1 (v := nI 38) dL_areMissing_56 rfl ?_
        refine ll_callLi 58 X hLA hml (As := [.int (nI 5), .int (nI 38)]) (kt_L_isMade l D C K kL kH ad hAp x F hs4 G T b 5 38 (by first | rfl | assumption | omega) (by first | rfl | assumption | omega) (fun i hi => by rw [g4_5 i hi, rd4 i (by omega), rd4 (1024 + i) (by omega)]; first | (show _ = du 38 (_) (_); rw [← show hM hs4 0 i = hs4 i from congrArg hs4 (by omega), ← show hM hs4 1 i = hs4 (1024 + i) from congrArg hs4 (by omega), g4_0 i hi, g4_1 i hi]; simp [pJ, du]; done))) gL_areMissing_L_isMade rfl ⟨rfl, rfl⟩ yd_L_isMade ⟨Nat.le_of_ble_eq_true rfl, Nat.le_of_ble_eq_true rfl⟩ rfl rfl (Nat.le_of_ble_eq_true rfl) ⟨Nat.le_of_ble_eq_true rfl, Nat.le_of_ble_eq_true rfl⟩ dL_areMissing_58 ?_
        rintro r6 ⟨x6, ⟨F6, hs6, G6, T6⟩, b6⟩ hu6
        obtain ⟨rfl, hv6⟩ := hu6
        cases hv6
        refine zz_world (P' := (LPo D C K kL kH (x, (F, hs4, G, T), b))) (fun _ h => h) ?_
        refine zz_ifB_eq 61 84 X.1 dL_areMissing_61 (by decide) (fun h61 => ?_) (fun h61 => ?_)
        · exact absurd h61 (by decide)
        · skip
          refine zz_aload_n 64 X.1 1 dL_areMissing_64 rfl ?_
          refine ll_get 65 X (by decide +kernel) 1 (by decide) (v := .ref (K 0)) rfl (by decide +kernel) rfl dL_areMissing_65 ?_
          refine zz_iconst 68 X.1 (v := nI 5) dL_areMissing_68 rfl ?_
          refine zz_iconst 69 X.1 (v := nI 0) dL_areMissing_69 rfl ?_
          refine zz_sipush 70 X.1 (v := nI 1024) dL_areMissing_70 rfl ?_
          refine ll_callDi 73 X hml hAp (As := [.int (nI 5), .int (nI 0), .int (nI 1024)]) (kt_X6_flipRange_ok l D C K hAp.1 F hs4 G T 5 0 1024 (by first | rfl | assumption | omega) (by first | rfl | assumption | omega)) gL_areMissing_X6_flipRange rfl ⟨rfl, rfl⟩ yd_X6_flipRange ⟨Nat.le_of_ble_eq_true rfl, Nat.le_of_ble_eq_true rfl⟩ rfl rfl (Nat.le_of_ble_eq_true rfl) ⟨Nat.le_of_ble_eq_true rfl, Nat.le_of_ble_eq_true rfl⟩ dL_areMissing_73 ?_
          rintro r7 ⟨F7, hs7, G7, T7⟩ hu7
          obtain ⟨rfl, hv7⟩ := hu7
          cases hv7
          refine zz_world (P' := (LPo D C K kL kH (x, (F, (sS hs4 5 (pX (hM hs4 5) 0 1024)), G, T), b))) (fun _ h => h) ?_
          obtain ⟨hs8, eh8⟩ : ∃ h, h = sS hs4 5 (pX (hM hs4 5) 0 1024) := ⟨_, rfl⟩
          refine zz_world (P' := (LPo D C K kL kH (x, (F, hs8, G, T), b))) (lp_hs eh8.symm) ?_
          have g8_5 : ∀ i, i < 1024 → hM hs8 5 i = (pX (fun i => pJ 38 ((hM hs 0 i)) (hM hs 1 i)) 0 1024 i) := fun i hi => (by rw [eh8]; exact hM_sS hi : hM hs8 5 i = (pX (hM hs4 5) 0 1024) i).trans ((pX_cong g4_5) i hi)
          have g8_0 : ∀ i, i < 1024 → hM hs8 0 i = (hM hs 0 i) := fun i hi => (by rw [eh8]; exact hM_sSo (by omega) hi : hM hs8 0 i = hM hs4 0 i).trans (g4_0 i hi)
          have g8_1 : ∀ i, i < 1024 → hM hs8 1 i = (hM hs 1 i) := fun i hi => (by rw [eh8]; exact hM_sSo (by omega) hi : hM hs8 1 i = hM hs4 1 i).trans (g4_1 i hi)
          have g8_2 : ∀ i, i < 1024 → hM hs8 2 i = (hM hs 2 i) := fun i hi => (by rw [eh8]; exact hM_sSo (by omega) hi : hM hs8 2 i = hM hs4 2 i).trans (g4_2 i hi)
          have rd8 : RD hs8 b := eh8 ▸ RD_sS rd4 (by omega)
          refine zz_topi (nI (ct (pX (fun i => pJ 38 ((hM hs 0 i)) (hM hs 1 i)) 0 1024) 1024)) (congrArg nI (ct_cong (pX_cong g4_5))) ?_
          refine zz_sipush 76 X.1 (v := nI 1024) dL_areMissing_76 rfl ?_
          refine zz_iload_n 79 X.1 0 dL_areMissing_79 rfl ?_
          refine zz_isub 80 X.1 (v := (nI (1024 - (ct (fun i => pJ 38 ((hM hs 0 i)) (hM hs 1 i)) 1024)))) dL_areMissing_80 (pk_sub (by omega)) ?_
          refine zz_icmp_eq 81 86 X.1 (nI_toInt (by omega)) (nI_toInt (by omega)) dL_areMissing_81 (by decide) (fun h81 => ?_) (fun h81 => ?_)
          · skip
            refine zz_aload_n 86 X.1 1 dL_areMissing_86 rfl ?_
            refine zz_bipush 87 X.1 (v := nI 6) dL_areMissing_87 rfl ?_
            refine zz_iconst 89 X.1 (v := nI 0) dL_areMissing_89 rfl ?_
            refine zz_iconst 90 X.1 (v := nI 1) dL_areMissing_90 rfl ?_
            refine ll_callLv 91 X hLA hml (As := [.int (nI 6), .int (nI 0), .int (bI true)]) (kt_L_copies l D C K kL kH ad hAp x F hs8 G T b 6 0 true (by first | rfl | assumption | omega) (by first | rfl | assumption | omega)) gL_areMissing_L_copies rfl ⟨rfl, rfl⟩ yd_L_copies ⟨Nat.le_of_ble_eq_true rfl, Nat.le_of_ble_eq_true rfl⟩ rfl rfl (Nat.le_of_ble_eq_true rfl) ⟨Nat.le_of_ble_eq_true rfl, Nat.le_of_ble_eq_true rfl⟩ dL_areMissing_91 ?_
            rintro ⟨x9, ⟨F9, hs9, G9, T9⟩, b9⟩ hu9
            have hv9 := hu9
            cases hv9
            refine zz_world (P' := (LPo D C K kL kH (x, (F, (sS hs8 6 (fun i => true ^^ hM hs8 0 i)), G, T), b))) (fun _ h => h) ?_
            obtain ⟨hs10, eh10⟩ : ∃ h, h = sS hs8 6 (fun i => true ^^ hM hs8 0 i) := ⟨_, rfl⟩
            refine zz_world (P' := (LPo D C K kL kH (x, (F, hs10, G, T), b))) (lp_hs eh10.symm) ?_
            have g10_6 : ∀ i, i < 1024 → hM hs10 6 i = (!(hM hs 0 i)) := fun i hi => (by rw [eh10]; exact hM_sS hi : hM hs10 6 i = (fun i => true ^^ hM hs8 0 i) i).trans ((fun i hi => (Bool.true_xor _).trans (congrArg not (g8_0 i hi))) i hi)
            have g10_0 : ∀ i, i < 1024 → hM hs10 0 i = (hM hs 0 i) := fun i hi => (by rw [eh10]; exact hM_sSo (by omega) hi : hM hs10 0 i = hM hs8 0 i).trans (g8_0 i hi)
            have g10_1 : ∀ i, i < 1024 → hM hs10 1 i = (hM hs 1 i) := fun i hi => (by rw [eh10]; exact hM_sSo (by omega) hi : hM hs10 1 i = hM hs8 1 i).trans (g8_1 i hi)
            have g10_2 : ∀ i, i < 1024 → hM hs10 2 i = (hM hs 2 i) := fun i hi => (by rw [eh10]; exact hM_sSo (by omega) hi : hM hs10 2 i = hM hs8 2 i).trans (g8_2 i hi)
            have g10_5 : ∀ i, i < 1024 → hM hs10 5 i = (pX (fun i => pJ 38 ((hM hs 0 i)) (hM hs 1 i)) 0 1024 i) := fun i hi => (by rw [eh10]; exact hM_sSo (by omega) hi : hM hs10 5 i = hM hs8 5 i).trans (g8_5 i hi)
            have rd10 : RD hs10 b := eh10 ▸ RD_sS rd8 (by omega)
            refine zz_aload_n 94 X.1 1 dL_areMissing_94 rfl ?_
            refine zz_bipush 95 X.1 (v := nI 6) dL_areMissing_95 rfl ?_
            refine zz_bipush 97 X.1 (v := nI 45) dL_areMissing_97 rfl ?_
            refine ll_callLi 99 X hLA hml (As := [.int (nI 6), .int (nI 45)]) (kt_L_isMade l D C K kL kH ad hAp x F hs10 G T b 6 45 (by first | rfl | assumption | omega) (by first | rfl | assumption | omega) (fun i hi => by rw [g10_6 i hi, rd10 i (by omega), rd10 (1024 + i) (by omega)]; first | (show _ = du 45 (_) (_); rw [← show hM hs10 0 i = hs10 i from congrArg hs10 (by omega), ← show hM hs10 1 i = hs10 (1024 + i) from congrArg hs10 (by omega), g10_0 i hi, g10_1 i hi]; simp [pJ, du]; done))) gL_areMissing_L_isMade rfl ⟨rfl, rfl⟩ yd_L_isMade ⟨Nat.le_of_ble_eq_true rfl, Nat.le_of_ble_eq_true rfl⟩ rfl rfl (Nat.le_of_ble_eq_true rfl) ⟨Nat.le_of_ble_eq_true rfl, Nat.le_of_ble_eq_true rfl⟩ dL_areMissing_99 ?_
            rintro r11 ⟨x11, ⟨F11, hs11, G11, T11⟩, b11⟩ hu11
            obtain ⟨rfl, hv11⟩ := hu11
            cases hv11
            refine zz_world (P' := (LPo D C K kL kH (x, (F, hs10, G, T), b))) (fun _ h => h) ?_
            refine zz_ifB_ne 102 107 X.1 dL_areMissing_102 (by decide) (fun h102 => ?_) (fun h102 => ?_)
            · skip
              refine zz_aload_n 107 X.1 1 dL_areMissing_107 rfl ?_
              refine zz_bipush 108 X.1 (v := nI 7) dL_areMissing_108 rfl ?_
              refine zz_iconst 110 X.1 (v := nI 1) dL_areMissing_110 rfl ?_
              refine zz_iconst 111 X.1 (v := nI 1) dL_areMissing_111 rfl ?_
              refine ll_callLv 112 X hLA hml (As := [.int (nI 7), .int (nI 1), .int (bI true)]) (kt_L_copies l D C K kL kH ad hAp x F hs10 G T b 7 1 true (by first | rfl | assumption | omega) (by first | rfl | assumption | omega)) gL_areMissing_L_copies rfl ⟨rfl, rfl⟩ yd_L_copies ⟨Nat.le_of_ble_eq_true rfl, Nat.le_of_ble_eq_true rfl⟩ rfl rfl (Nat.le_of_ble_eq_true rfl) ⟨Nat.le_of_ble_eq_true rfl, Nat.le_of_ble_eq_true rfl⟩ dL_areMissing_112 ?_
              rintro ⟨x12, ⟨F12, hs12, G12, T12⟩, b12⟩ hu12
              have hv12 := hu12
              cases hv12
              refine zz_world (P' := (LPo D C K kL kH (x, (F, (sS hs10 7 (fun i => true ^^ hM hs10 1 i)), G, T), b))) (fun _ h => h) ?_
              obtain ⟨hs13, eh13⟩ : ∃ h, h = sS hs10 7 (fun i => true ^^ hM hs10 1 i) := ⟨_, rfl⟩
              refine zz_world (P' := (LPo D C K kL kH (x, (F, hs13, G, T), b))) (lp_hs eh13.symm) ?_
              have g13_7 : ∀ i, i < 1024 → hM hs13 7 i = (!(hM hs 1 i)) := fun i hi => (by rw [eh13]; exact hM_sS hi : hM hs13 7 i = (fun i => true ^^ hM hs10 1 i) i).trans ((fun i hi => (Bool.true_xor _).trans (congrArg not (g10_1 i hi))) i hi)
              have g13_0 : ∀ i, i < 1024 → hM hs13 0 i = (hM hs 0 i) := fun i hi => (by rw [eh13]; exact hM_sSo (by omega) hi : hM hs13 0 i = hM hs10 0 i).trans (g10_0 i hi)
              have g13_1 : ∀ i, i < 1024 → hM hs13 1 i = (hM hs 1 i) := fun i hi => (by rw [eh13]; exact hM_sSo (by omega) hi : hM hs13 1 i = hM hs10 1 i).trans (g10_1 i hi)
              have g13_2 : ∀ i, i < 1024 → hM hs13 2 i = (hM hs 2 i) := fun i hi => (by rw [eh13]; exact hM_sSo (by omega) hi : hM hs13 2 i = hM hs10 2 i).trans (g10_2 i hi)
              have g13_5 : ∀ i, i < 1024 → hM hs13 5 i = (pX (fun i => pJ 38 ((hM hs 0 i)) (hM hs 1 i)) 0 1024 i) := fun i hi => (by rw [eh13]; exact hM_sSo (by omega) hi : hM hs13 5 i = hM hs10 5 i).trans (g10_5 i hi)
              have g13_6 : ∀ i, i < 1024 → hM hs13 6 i = (!(hM hs 0 i)) := fun i hi => (by rw [eh13]; exact hM_sSo (by omega) hi : hM hs13 6 i = hM hs10 6 i).trans (g10_6 i hi)
              have rd13 : RD hs13 b := eh13 ▸ RD_sS rd10 (by omega)
              refine zz_iload_n 115 X.1 2 dL_areMissing_115 rfl ?_
              refine zz_ifB_eq 116 133 X.1 dL_areMissing_116 (by decide) (fun h116 => ?_) (fun h116 => ?_)
              · skip
                refine zz_aload_n 133 X.1 1 dL_areMissing_133 rfl ?_
                refine ll_get 134 X (by decide +kernel) 1 (by decide) (v := .ref (K 0)) rfl (by decide +kernel) rfl dL_areMissing_134 ?_
                refine zz_bipush 137 X.1 (v := nI 6) dL_areMissing_137 rfl ?_
                refine zz_bipush 139 X.1 (v := nI 7) dL_areMissing_139 rfl ?_
                refine ll_callDi 141 X hml hAp (As := [.int (nI 6), .int (nI 7)]) (kt_X6_unite_ok l D C K hAp.1 F hs13 G T 6 7 (by first | rfl | assumption | omega) (by first | rfl | assumption | omega)) gL_areMissing_X6_unite rfl ⟨rfl, rfl⟩ yd_X6_unite ⟨Nat.le_of_ble_eq_true rfl, Nat.le_of_ble_eq_true rfl⟩ rfl rfl (Nat.le_of_ble_eq_true rfl) ⟨Nat.le_of_ble_eq_true rfl, Nat.le_of_ble_eq_true rfl⟩ dL_areMissing_141 ?_
                rintro r14 ⟨F14, hs14, G14, T14⟩ hu14
                obtain ⟨rfl, hv14⟩ := hu14
                cases hv14
                refine zz_world (P' := (LPo D C K kL kH (x, (F, (sS hs13 6 (fun i => pJ 124 (hM hs13 6 i) (hM hs13 7 i))), G, T), b))) (fun _ h => h) ?_
                obtain ⟨hs15, eh15⟩ : ∃ h, h = sS hs13 6 (fun i => pJ 124 (hM hs13 6 i) (hM hs13 7 i)) := ⟨_, rfl⟩
                refine zz_world (P' := (LPo D C K kL kH (x, (F, hs15, G, T), b))) (lp_hs eh15.symm) ?_
                have g15_6 : ∀ i, i < 1024 → hM hs15 6 i = (pJ 124 (!(hM hs 0 i)) (!(hM hs 1 i))) := fun i hi => (by rw [eh15]; exact hM_sS hi : hM hs15 6 i = (fun i => pJ 124 (hM hs13 6 i) (hM hs13 7 i)) i).trans ((fun i hi => cg2 (g13_6 i hi) (g13_7 i hi)) i hi)
                have g15_0 : ∀ i, i < 1024 → hM hs15 0 i = (hM hs 0 i) := fun i hi => (by rw [eh15]; exact hM_sSo (by omega) hi : hM hs15 0 i = hM hs13 0 i).trans (g13_0 i hi)
                have g15_1 : ∀ i, i < 1024 → hM hs15 1 i = (hM hs 1 i) := fun i hi => (by rw [eh15]; exact hM_sSo (by omega) hi : hM hs15 1 i = hM hs13 1 i).trans (g13_1 i hi)
                have g15_2 : ∀ i, i < 1024 → hM hs15 2 i = (hM hs 2 i) := fun i hi => (by rw [eh15]; exact hM_sSo (by omega) hi : hM hs15 2 i = hM hs13 2 i).trans (g13_2 i hi)
                have g15_5 : ∀ i, i < 1024 → hM hs15 5 i = (pX (fun i => pJ 38 ((hM hs 0 i)) (hM hs 1 i)) 0 1024 i) := fun i hi => (by rw [eh15]; exact hM_sSo (by omega) hi : hM hs15 5 i = hM hs13 5 i).trans (g13_5 i hi)
                have g15_7 : ∀ i, i < 1024 → hM hs15 7 i = (!(hM hs 1 i)) := fun i hi => (by rw [eh15]; exact hM_sSo (by omega) hi : hM hs15 7 i = hM hs13 7 i).trans (g13_7 i hi)
                have rd15 : RD hs15 b := eh15 ▸ RD_sS rd13 (by omega)
                refine zz_topi (nI (ct (fun i => pJ 124 (!(hM hs 0 i)) (!(hM hs 1 i))) 1024)) (congrArg nI (ct_cong (fun i hi => cg2 (g13_6 i hi) (g13_7 i hi)))) ?_
                refine zz_istore_n 144 X.1 (lv' := [(3, .int (nI (ct (fun i => pJ 124 (!(hM hs 0 i)) (!(hM hs 1 i))) 1024))), (2, .int (nI (ct (fun i => pJ 38 ((hM hs 0 i)) (hM hs 1 i)) 1024))), (0, .ref kL), (1, .int (bI false))]) dL_areMissing_144 (by decide) rfl ?_
                refine zz_iload_n 145 X.1 0 dL_areMissing_145 rfl ?_
                refine zz_sipush 146 X.1 (v := nI 1024) dL_areMissing_146 rfl ?_
                refine zz_iload_n 149 X.1 1 dL_areMissing_149 rfl ?_
                refine zz_isub 150 X.1 (v := (nI (1024 - (ct (fun i => pJ 38 ((hM hs 0 i)) (hM hs 1 i)) 1024)))) dL_areMissing_150 (pk_sub (by omega)) ?_
                refine zz_icmp_ne 151 204 X.1 (nI_toInt (by omega)) (nI_toInt (by omega)) dL_areMissing_151 (by decide) (fun h151 => ?_) (fun h151 => ?_)
                · exfalso; omega
                · skip
                  refine zz_aload_n 154 X.1 2 dL_areMissing_154 rfl ?_
                  refine ll_get 155 X (by decide +kernel) 1 (by decide) (v := .ref (K 0)) rfl (by decide +kernel) rfl dL_areMissing_155 ?_
                  refine zz_iconst 158 X.1 (v := nI 5) dL_areMissing_158 rfl ?_
                  refine zz_bipush 159 X.1 (v := nI 6) dL_areMissing_159 rfl ?_
                  refine ll_callDi 161 X hml hAp (As := [.int (nI 5), .int (nI 6)]) (kt_X6_areEqual_ok l D C K hAp.1 F hs15 G T 5 6 (by first | rfl | assumption | omega) (by first | rfl | assumption | omega)) gL_areMissing_X6_areEqual rfl ⟨rfl, rfl⟩ yd_X6_areEqual ⟨Nat.le_of_ble_eq_true rfl, Nat.le_of_ble_eq_true rfl⟩ rfl rfl (Nat.le_of_ble_eq_true rfl) ⟨Nat.le_of_ble_eq_true rfl, Nat.le_of_ble_eq_true rfl⟩ dL_areMissing_161 ?_
                  rintro r16 ⟨F16, hs16, G16, T16⟩ hu16
                  obtain ⟨rfl, hv16⟩ := hu16
                  cases hv16
                  refine zz_world (P' := (LPo D C K kL kH (x, (F, hs15, G, T), b))) (fun _ h => h) ?_
                  refine zz_ifB_eq 164 204 X.1 dL_areMissing_164 (by decide) (fun h164 => ?_) (fun h164 => ?_)
                  · exfalso; exact absurd ((eq_t (fun i hi => by rw [g15_5 i hi, g15_6 i hi]; exact hdm i hi)).symm.trans h164) (by decide)
                  · skip
                    refine zz_aload_n 167 X.1 2 dL_areMissing_167 rfl ?_
                    refine ll_get 168 X (by decide +kernel) 1 (by decide) (v := .ref (K 0)) rfl (by decide +kernel) rfl dL_areMissing_168 ?_
                    refine zz_bipush 171 X.1 (v := nI 6) dL_areMissing_171 rfl ?_
                    refine zz_iconst 173 X.1 (v := nI 5) dL_areMissing_173 rfl ?_
                    refine ll_callDi 174 X hml hAp (As := [.int (nI 6), .int (nI 5)]) (kt_X6_areEqual_ok l D C K hAp.1 F hs15 G T 6 5 (by first | rfl | assumption | omega) (by first | rfl | assumption | omega)) gL_areMissing_X6_areEqual rfl ⟨rfl, rfl⟩ yd_X6_areEqual ⟨Nat.le_of_ble_eq_true rfl, Nat.le_of_ble_eq_true rfl⟩ rfl rfl (Nat.le_of_ble_eq_true rfl) ⟨Nat.le_of_ble_eq_true rfl, Nat.le_of_ble_eq_true rfl⟩ dL_areMissing_174 ?_
                    rintro r17 ⟨F17, hs17, G17, T17⟩ hu17
                    obtain ⟨rfl, hv17⟩ := hu17
                    cases hv17
                    refine zz_world (P' := (LPo D C K kL kH (x, (F, hs15, G, T), b))) (fun _ h => h) ?_
                    refine zz_ifB_eq 177 204 X.1 dL_areMissing_177 (by decide) (fun h177 => ?_) (fun h177 => ?_)
                    · exfalso; exact absurd ((eq_t (fun i hi => by rw [g15_5 i hi, g15_6 i hi]; exact (hdm i hi).symm)).symm.trans h177) (by decide)
                    · skip
                      refine zz_aload_n 180 X.1 2 dL_areMissing_180 rfl ?_
                      refine ll_get 181 X (by decide +kernel) 1 (by decide) (v := .ref (K 0)) rfl (by decide +kernel) rfl dL_areMissing_181 ?_
                      refine zz_iconst 184 X.1 (v := nI 5) dL_areMissing_184 rfl ?_
                      refine ll_callDi 185 X hml hAp (As := [.int (nI 5)]) (kt_X6_fingerprint_ok l D C K hAp.1 F hs15 G T 5 (by first | rfl | assumption | omega)) gL_areMissing_X6_fingerprint rfl ⟨rfl, rfl⟩ yd_X6_fingerprint ⟨Nat.le_of_ble_eq_true rfl, Nat.le_of_ble_eq_true rfl⟩ rfl rfl (Nat.le_of_ble_eq_true rfl) ⟨Nat.le_of_ble_eq_true rfl, Nat.le_of_ble_eq_true rfl⟩ dL_areMissing_185 ?_
                      rintro r18 ⟨F18, hs18, G18, T18⟩ hu18
                      obtain ⟨rfl, hv18⟩ := hu18
                      cases hv18
                      refine zz_world (P' := (LPo D C K kL kH (x, (F, hs15, G, T), b))) (fun _ h => h) ?_
                      refine zz_aload_n 188 X.1 2 dL_areMissing_188 rfl ?_
                      refine ll_get 189 X (by decide +kernel) 1 (by decide) (v := .ref (K 0)) rfl (by decide +kernel) rfl dL_areMissing_189 ?_
                      refine zz_bipush 192 X.1 (v := nI 6) dL_areMissing_192 rfl ?_
                      refine ll_callDi 194 X hml hAp (As := [.int (nI 6)]) (kt_X6_fingerprint_ok l D C K hAp.1 F hs15 G T 6 (by first | rfl | assumption | omega)) gL_areMissing_X6_fingerprint rfl ⟨rfl, rfl⟩ yd_X6_fingerprint ⟨Nat.le_of_ble_eq_true rfl, Nat.le_of_ble_eq_true rfl⟩ rfl rfl (Nat.le_of_ble_eq_true rfl) ⟨Nat.le_of_ble_eq_true rfl, Nat.le_of_ble_eq_true rfl⟩ dL_areMissing_194 ?_
                      rintro r19 ⟨F19, hs19, G19, T19⟩ hu19
                      obtain ⟨rfl, hv19⟩ := hu19
                      cases hv19
                      refine zz_world (P' := (LPo D C K kL kH (x, (F, hs15, G, T), b))) (fun _ h => h) ?_
                      refine zz_icmp_ne 197 204 X.1 rfl rfl dL_areMissing_197 (by decide) (fun h197 => ?_) (fun h197 => ?_)
                      · exfalso; exact h197 (congrArg Int32.toInt (fpr_cong (fun i hi => by rw [g15_5 i hi, g15_6 i hi]; exact hdm i hi)))
                      · skip
                        refine zz_iconst 200 X.1 (v := nI 1) dL_areMissing_200 rfl ?_
                        refine zz_goto 201 205 X.1 dL_areMissing_201 (by decide) ?_
                        refine zz_topi (bI true) rfl ?_
                        rw [← hQ]
                        refine zz_iret 205 X.1 hr (bI_nar _) hlk (x, (F, hs15, G, T), b) ?_ (fun _ h _ => h) dL_areMissing_205
                        exact ⟨_, rfl, rfl, rd15⟩
              · exact absurd h116 (by decide)
            · exact absurd h102 (by decide)
          · exfalso; omega
      · exact absurd h48 (by decide)
  · exact absurd h8 (by decide)

abbrev rm_L_areDistributed : Room := { frames := 11, cells := 0, slots := 0, locals := 205 }
theorem yd_L_areDistributed : yL_areDistributed.cls = RL ∧ yL_areDistributed.cls ≠ "java/lang/invoke/MethodHandle" ∧ yL_areDistributed.cls ≠ "java/lang/invoke/VarHandle" ∧ (parseMethodDescriptor yL_areDistributed.desc).map (fun d => d.parameters.length) = some 1 := by decide +kernel
set_option maxHeartbeats 4000000 in
set_option maxRecDepth 100000 in
theorem kt_L_areDistributed_t (l : Launch) (D : va_G) (C : Nat → ClassId) (K : Nat → Nat) (kL kH : Nat) (ad : Nat → Nat) (hAp : LAp K kL kH) (x : Int32) (F : Nat → Int32) (hs : Nat → Bool) (G T : Nat → Nat → Int32) (b : Nat → Bool)  (hrd : RD hs b) : LMi l yL_areDistributed wsL_areDistributed rm_L_areDistributed D C K kL kH ad 0 0 [.int (bI true)] x F hs G T b (fun (r : Int32) (q : LSt) => ∃ (hs1 : Nat → Bool), r = (bI true) ∧ q = (x, (F, hs1, G, T), b) ∧ RD hs1 b) := by
  refine LMi_of (lv := [(0, .ref kL), (1, .int (bI true))]) (cc := cL_areDistributed) (maxL := 7) (ret := (some .boolean)) rfl (by decide +kernel) (Nat.le_of_ble_eq_true rfl) rfl ?_
  intro p e s m args below meth c X hLA hml hr hlk
  generalize hQ : MQ below _ args s 0 0 _ = Q
  refine zz_aload_n 0 X.1 0 dL_areDistributed_0 rfl ?_
  refine zz_iconst 1 X.1 (v := nI 5) dL_areDistributed_1 rfl ?_
  refine zz_iconst 2 X.1 (v := nI 1) dL_areDistributed_2 rfl ?_
  refine zz_iconst 3 X.1 (v := nI 0) dL_areDistributed_3 rfl ?_
  refine ll_callLv 4 X hLA hml (As := [.int (nI 5), .int (nI 1), .int (bI false)]) (kt_L_copies l D C K kL kH ad hAp x F hs G T b 5 1 false (by first | rfl | assumption | omega) (by first | rfl | assumption | omega)) gL_areDistributed_L_copies rfl ⟨rfl, rfl⟩ yd_L_copies ⟨Nat.le_of_ble_eq_true rfl, Nat.le_of_ble_eq_true rfl⟩ rfl rfl (Nat.le_of_ble_eq_true rfl) ⟨Nat.le_of_ble_eq_true rfl, Nat.le_of_ble_eq_true rfl⟩ dL_areDistributed_4 ?_
  rintro ⟨x1, ⟨F1, hs1, G1, T1⟩, b1⟩ hu1
  have hv1 := hu1
  cases hv1
  refine zz_world (P' := (LPo D C K kL kH (x, (F, (sS hs 5 (fun i => false ^^ hM hs 1 i)), G, T), b))) (fun _ h => h) ?_
  obtain ⟨hs2, eh2⟩ : ∃ h, h = sS hs 5 (fun i => false ^^ hM hs 1 i) := ⟨_, rfl⟩
  refine zz_world (P' := (LPo D C K kL kH (x, (F, hs2, G, T), b))) (lp_hs eh2.symm) ?_
  have g2_5 : ∀ i, i < 1024 → hM hs2 5 i = ((hM hs 1 i)) := fun i hi => (by rw [eh2]; exact hM_sS hi : hM hs2 5 i = (fun i => false ^^ hM hs 1 i) i).trans ((fun i hi => (Bool.false_xor _).trans ((fun _ _ => rfl) i hi)) i hi)
  have g2_0 : ∀ i, i < 1024 → hM hs2 0 i = (hM hs 0 i) := fun i hi => (by rw [eh2]; exact hM_sSo (by omega) hi : hM hs2 0 i = hM hs 0 i).trans ((fun _ _ => rfl) i hi)
  have g2_1 : ∀ i, i < 1024 → hM hs2 1 i = (hM hs 1 i) := fun i hi => (by rw [eh2]; exact hM_sSo (by omega) hi : hM hs2 1 i = hM hs 1 i).trans ((fun _ _ => rfl) i hi)
  have g2_2 : ∀ i, i < 1024 → hM hs2 2 i = (hM hs 2 i) := fun i hi => (by rw [eh2]; exact hM_sSo (by omega) hi : hM hs2 2 i = hM hs 2 i).trans ((fun _ _ => rfl) i hi)
  have rd2 : RD hs2 b := eh2 ▸ RD_sS hrd (by omega)
  have hdl : ∀ i, i < 1024 → pJ 124 (pJ 38 (hM hs 1 i) (hM hs 2 i)) (hM hs 0 i) = pJ 38 (pJ 124 (hM hs 0 i) (hM hs 1 i)) (pJ 124 (hM hs 0 i) (hM hs 2 i)) := fun i hi => by cases hM hs 0 i <;> cases hM hs 1 i <;> cases hM hs 2 i <;> rfl
  have e01 : ct (fun i => pJ 124 (pJ 38 (hM hs 1 i) (hM hs 2 i)) (hM hs 0 i)) 1024 = ct (fun i => pJ 38 (pJ 124 (hM hs 0 i) (hM hs 1 i)) (pJ 124 (hM hs 0 i) (hM hs 2 i))) 1024 := ct_cong hdl
  have le0 := ct_le (fun i => pJ 124 (hM hs 0 i) (hM hs 1 i)) 1024
  have le1 := ct_le (fun i => pJ 124 (hM hs 0 i) (hM hs 2 i)) 1024
  have le2 := ct_le (fun i => pJ 38 (hM hs 1 i) (hM hs 2 i)) 1024
  have le3 := ct_le (fun i => pJ 124 (pJ 38 (hM hs 1 i) (hM hs 2 i)) (hM hs 0 i)) 1024
  have le4 := ct_le (fun i => pJ 38 (pJ 124 (hM hs 0 i) (hM hs 1 i)) (pJ 124 (hM hs 0 i) (hM hs 2 i))) 1024
  refine zz_iload_n 7 X.1 1 dL_areDistributed_7 rfl ?_
  refine zz_ifB_eq 8 23 X.1 dL_areDistributed_8 (by decide) (fun h8 => ?_) (fun h8 => ?_)
  · exact absurd h8 (by decide)
  · skip
    refine zz_aload_n 11 X.1 0 dL_areDistributed_11 rfl ?_
    refine ll_get 12 X (by decide +kernel) 1 (by decide) (v := .ref (K 0)) rfl (by decide +kernel) rfl dL_areDistributed_12 ?_
    refine zz_iconst 15 X.1 (v := nI 5) dL_areDistributed_15 rfl ?_
    refine zz_iconst 16 X.1 (v := nI 2) dL_areDistributed_16 rfl ?_
    refine ll_callDi 17 X hml hAp (As := [.int (nI 5), .int (nI 2)]) (kt_X6_intersect_ok l D C K hAp.1 F hs2 G T 5 2 (by first | rfl | assumption | omega) (by first | rfl | assumption | omega)) gL_areDistributed_X6_intersect rfl ⟨rfl, rfl⟩ yd_X6_intersect ⟨Nat.le_of_ble_eq_true rfl, Nat.le_of_ble_eq_true rfl⟩ rfl rfl (Nat.le_of_ble_eq_true rfl) ⟨Nat.le_of_ble_eq_true rfl, Nat.le_of_ble_eq_true rfl⟩ dL_areDistributed_17 ?_
    rintro r3 ⟨F3, hs3, G3, T3⟩ hu3
    obtain ⟨rfl, hv3⟩ := hu3
    cases hv3
    refine zz_world (P' := (LPo D C K kL kH (x, (F, (sS hs2 5 (fun i => pJ 38 (hM hs2 5 i) (hM hs2 2 i))), G, T), b))) (fun _ h => h) ?_
    obtain ⟨hs4, eh4⟩ : ∃ h, h = sS hs2 5 (fun i => pJ 38 (hM hs2 5 i) (hM hs2 2 i)) := ⟨_, rfl⟩
    refine zz_world (P' := (LPo D C K kL kH (x, (F, hs4, G, T), b))) (lp_hs eh4.symm) ?_
    have g4_5 : ∀ i, i < 1024 → hM hs4 5 i = (pJ 38 ((hM hs 1 i)) (hM hs 2 i)) := fun i hi => (by rw [eh4]; exact hM_sS hi : hM hs4 5 i = (fun i => pJ 38 (hM hs2 5 i) (hM hs2 2 i)) i).trans ((fun i hi => cg2 (g2_5 i hi) (g2_2 i hi)) i hi)
    have g4_0 : ∀ i, i < 1024 → hM hs4 0 i = (hM hs 0 i) := fun i hi => (by rw [eh4]; exact hM_sSo (by omega) hi : hM hs4 0 i = hM hs2 0 i).trans (g2_0 i hi)
    have g4_1 : ∀ i, i < 1024 → hM hs4 1 i = (hM hs 1 i) := fun i hi => (by rw [eh4]; exact hM_sSo (by omega) hi : hM hs4 1 i = hM hs2 1 i).trans (g2_1 i hi)
    have g4_2 : ∀ i, i < 1024 → hM hs4 2 i = (hM hs 2 i) := fun i hi => (by rw [eh4]; exact hM_sSo (by omega) hi : hM hs4 2 i = hM hs2 2 i).trans (g2_2 i hi)
    have rd4 : RD hs4 b := eh4 ▸ RD_sS rd2 (by omega)
    refine zz_topi (nI (ct (fun i => pJ 38 ((hM hs 1 i)) (hM hs 2 i)) 1024)) (congrArg nI (ct_cong (fun i hi => cg2 (g2_5 i hi) (g2_2 i hi)))) ?_
    refine zz_goto 20 32 X.1 dL_areDistributed_20 (by decide) ?_
    refine zz_istore_n 32 X.1 (lv' := [(2, .int (nI (ct (fun i => pJ 38 ((hM hs 1 i)) (hM hs 2 i)) 1024))), (0, .ref kL), (1, .int (bI true))]) dL_areDistributed_32 (by decide) rfl ?_
    refine zz_iload_n 33 X.1 2 dL_areDistributed_33 rfl ?_
    refine zz_ifB_eq 34 49 X.1 dL_areDistributed_34 (by decide) (fun h34 => ?_) (fun h34 => ?_)
    · exact absurd h34 (by decide)
    · skip
      refine zz_aload_n 37 X.1 1 dL_areDistributed_37 rfl ?_
      refine ll_get 38 X (by decide +kernel) 1 (by decide) (v := .ref (K 0)) rfl (by decide +kernel) rfl dL_areDistributed_38 ?_
      refine zz_iconst 41 X.1 (v := nI 5) dL_areDistributed_41 rfl ?_
      refine zz_iconst 42 X.1 (v := nI 0) dL_areDistributed_42 rfl ?_
      refine ll_callDi 43 X hml hAp (As := [.int (nI 5), .int (nI 0)]) (kt_X6_unite_ok l D C K hAp.1 F hs4 G T 5 0 (by first | rfl | assumption | omega) (by first | rfl | assumption | omega)) gL_areDistributed_X6_unite rfl ⟨rfl, rfl⟩ yd_X6_unite ⟨Nat.le_of_ble_eq_true rfl, Nat.le_of_ble_eq_true rfl⟩ rfl rfl (Nat.le_of_ble_eq_true rfl) ⟨Nat.le_of_ble_eq_true rfl, Nat.le_of_ble_eq_true rfl⟩ dL_areDistributed_43 ?_
      rintro r5 ⟨F5, hs5, G5, T5⟩ hu5
      obtain ⟨rfl, hv5⟩ := hu5
      cases hv5
      refine zz_world (P' := (LPo D C K kL kH (x, (F, (sS hs4 5 (fun i => pJ 124 (hM hs4 5 i) (hM hs4 0 i))), G, T), b))) (fun _ h => h) ?_
      obtain ⟨hs6, eh6⟩ : ∃ h, h = sS hs4 5 (fun i => pJ 124 (hM hs4 5 i) (hM hs4 0 i)) := ⟨_, rfl⟩
      refine zz_world (P' := (LPo D C K kL kH (x, (F, hs6, G, T), b))) (lp_hs eh6.symm) ?_
      have g6_5 : ∀ i, i < 1024 → hM hs6 5 i = (pJ 124 (pJ 38 ((hM hs 1 i)) (hM hs 2 i)) (hM hs 0 i)) := fun i hi => (by rw [eh6]; exact hM_sS hi : hM hs6 5 i = (fun i => pJ 124 (hM hs4 5 i) (hM hs4 0 i)) i).trans ((fun i hi => cg2 (g4_5 i hi) (g4_0 i hi)) i hi)
      have g6_0 : ∀ i, i < 1024 → hM hs6 0 i = (hM hs 0 i) := fun i hi => (by rw [eh6]; exact hM_sSo (by omega) hi : hM hs6 0 i = hM hs4 0 i).trans (g4_0 i hi)
      have g6_1 : ∀ i, i < 1024 → hM hs6 1 i = (hM hs 1 i) := fun i hi => (by rw [eh6]; exact hM_sSo (by omega) hi : hM hs6 1 i = hM hs4 1 i).trans (g4_1 i hi)
      have g6_2 : ∀ i, i < 1024 → hM hs6 2 i = (hM hs 2 i) := fun i hi => (by rw [eh6]; exact hM_sSo (by omega) hi : hM hs6 2 i = hM hs4 2 i).trans (g4_2 i hi)
      have rd6 : RD hs6 b := eh6 ▸ RD_sS rd4 (by omega)
      refine zz_topi (nI (ct (fun i => pJ 124 (pJ 38 ((hM hs 1 i)) (hM hs 2 i)) (hM hs 0 i)) 1024)) (congrArg nI (ct_cong (fun i hi => cg2 (g4_5 i hi) (g4_0 i hi)))) ?_
      refine zz_goto 46 58 X.1 dL_areDistributed_46 (by decide) ?_
      refine zz_istore_n 58 X.1 (lv' := [(3, .int (nI (ct (fun i => pJ 124 (pJ 38 ((hM hs 1 i)) (hM hs 2 i)) (hM hs 0 i)) 1024))), (2, .int (nI (ct (fun i => pJ 38 ((hM hs 1 i)) (hM hs 2 i)) 1024))), (0, .ref kL), (1, .int (bI true))]) dL_areDistributed_58 (by decide) rfl ?_
      refine zz_aload_n 59 X.1 2 dL_areDistributed_59 rfl ?_
      refine zz_bipush 60 X.1 (v := nI 6) dL_areDistributed_60 rfl ?_
      refine zz_iconst 62 X.1 (v := nI 0) dL_areDistributed_62 rfl ?_
      refine zz_iconst 63 X.1 (v := nI 0) dL_areDistributed_63 rfl ?_
      refine ll_callLv 64 X hLA hml (As := [.int (nI 6), .int (nI 0), .int (bI false)]) (kt_L_copies l D C K kL kH ad hAp x F hs6 G T b 6 0 false (by first | rfl | assumption | omega) (by first | rfl | assumption | omega)) gL_areDistributed_L_copies rfl ⟨rfl, rfl⟩ yd_L_copies ⟨Nat.le_of_ble_eq_true rfl, Nat.le_of_ble_eq_true rfl⟩ rfl rfl (Nat.le_of_ble_eq_true rfl) ⟨Nat.le_of_ble_eq_true rfl, Nat.le_of_ble_eq_true rfl⟩ dL_areDistributed_64 ?_
      rintro ⟨x7, ⟨F7, hs7, G7, T7⟩, b7⟩ hu7
      have hv7 := hu7
      cases hv7
      refine zz_world (P' := (LPo D C K kL kH (x, (F, (sS hs6 6 (fun i => false ^^ hM hs6 0 i)), G, T), b))) (fun _ h => h) ?_
      obtain ⟨hs8, eh8⟩ : ∃ h, h = sS hs6 6 (fun i => false ^^ hM hs6 0 i) := ⟨_, rfl⟩
      refine zz_world (P' := (LPo D C K kL kH (x, (F, hs8, G, T), b))) (lp_hs eh8.symm) ?_
      have g8_6 : ∀ i, i < 1024 → hM hs8 6 i = ((hM hs 0 i)) := fun i hi => (by rw [eh8]; exact hM_sS hi : hM hs8 6 i = (fun i => false ^^ hM hs6 0 i) i).trans ((fun i hi => (Bool.false_xor _).trans (g6_0 i hi)) i hi)
      have g8_0 : ∀ i, i < 1024 → hM hs8 0 i = (hM hs 0 i) := fun i hi => (by rw [eh8]; exact hM_sSo (by omega) hi : hM hs8 0 i = hM hs6 0 i).trans (g6_0 i hi)
      have g8_1 : ∀ i, i < 1024 → hM hs8 1 i = (hM hs 1 i) := fun i hi => (by rw [eh8]; exact hM_sSo (by omega) hi : hM hs8 1 i = hM hs6 1 i).trans (g6_1 i hi)
      have g8_2 : ∀ i, i < 1024 → hM hs8 2 i = (hM hs 2 i) := fun i hi => (by rw [eh8]; exact hM_sSo (by omega) hi : hM hs8 2 i = hM hs6 2 i).trans (g6_2 i hi)
      have g8_5 : ∀ i, i < 1024 → hM hs8 5 i = (pJ 124 (pJ 38 ((hM hs 1 i)) (hM hs 2 i)) (hM hs 0 i)) := fun i hi => (by rw [eh8]; exact hM_sSo (by omega) hi : hM hs8 5 i = hM hs6 5 i).trans (g6_5 i hi)
      have rd8 : RD hs8 b := eh8 ▸ RD_sS rd6 (by omega)
      refine zz_aload_n 67 X.1 2 dL_areDistributed_67 rfl ?_
      refine zz_bipush 68 X.1 (v := nI 7) dL_areDistributed_68 rfl ?_
      refine zz_iconst 70 X.1 (v := nI 0) dL_areDistributed_70 rfl ?_
      refine zz_iconst 71 X.1 (v := nI 0) dL_areDistributed_71 rfl ?_
      refine ll_callLv 72 X hLA hml (As := [.int (nI 7), .int (nI 0), .int (bI false)]) (kt_L_copies l D C K kL kH ad hAp x F hs8 G T b 7 0 false (by first | rfl | assumption | omega) (by first | rfl | assumption | omega)) gL_areDistributed_L_copies rfl ⟨rfl, rfl⟩ yd_L_copies ⟨Nat.le_of_ble_eq_true rfl, Nat.le_of_ble_eq_true rfl⟩ rfl rfl (Nat.le_of_ble_eq_true rfl) ⟨Nat.le_of_ble_eq_true rfl, Nat.le_of_ble_eq_true rfl⟩ dL_areDistributed_72 ?_
      rintro ⟨x9, ⟨F9, hs9, G9, T9⟩, b9⟩ hu9
      have hv9 := hu9
      cases hv9
      refine zz_world (P' := (LPo D C K kL kH (x, (F, (sS hs8 7 (fun i => false ^^ hM hs8 0 i)), G, T), b))) (fun _ h => h) ?_
      obtain ⟨hs10, eh10⟩ : ∃ h, h = sS hs8 7 (fun i => false ^^ hM hs8 0 i) := ⟨_, rfl⟩
      refine zz_world (P' := (LPo D C K kL kH (x, (F, hs10, G, T), b))) (lp_hs eh10.symm) ?_
      have g10_7 : ∀ i, i < 1024 → hM hs10 7 i = ((hM hs 0 i)) := fun i hi => (by rw [eh10]; exact hM_sS hi : hM hs10 7 i = (fun i => false ^^ hM hs8 0 i) i).trans ((fun i hi => (Bool.false_xor _).trans (g8_0 i hi)) i hi)
      have g10_0 : ∀ i, i < 1024 → hM hs10 0 i = (hM hs 0 i) := fun i hi => (by rw [eh10]; exact hM_sSo (by omega) hi : hM hs10 0 i = hM hs8 0 i).trans (g8_0 i hi)
      have g10_1 : ∀ i, i < 1024 → hM hs10 1 i = (hM hs 1 i) := fun i hi => (by rw [eh10]; exact hM_sSo (by omega) hi : hM hs10 1 i = hM hs8 1 i).trans (g8_1 i hi)
      have g10_2 : ∀ i, i < 1024 → hM hs10 2 i = (hM hs 2 i) := fun i hi => (by rw [eh10]; exact hM_sSo (by omega) hi : hM hs10 2 i = hM hs8 2 i).trans (g8_2 i hi)
      have g10_5 : ∀ i, i < 1024 → hM hs10 5 i = (pJ 124 (pJ 38 ((hM hs 1 i)) (hM hs 2 i)) (hM hs 0 i)) := fun i hi => (by rw [eh10]; exact hM_sSo (by omega) hi : hM hs10 5 i = hM hs8 5 i).trans (g8_5 i hi)
      have g10_6 : ∀ i, i < 1024 → hM hs10 6 i = ((hM hs 0 i)) := fun i hi => (by rw [eh10]; exact hM_sSo (by omega) hi : hM hs10 6 i = hM hs8 6 i).trans (g8_6 i hi)
      have rd10 : RD hs10 b := eh10 ▸ RD_sS rd8 (by omega)
      refine zz_iload_n 75 X.1 3 dL_areDistributed_75 rfl ?_
      refine zz_ifB_eq 76 92 X.1 dL_areDistributed_76 (by decide) (fun h76 => ?_) (fun h76 => ?_)
      · exact absurd h76 (by decide)
      · skip
        refine zz_aload_n 79 X.1 2 dL_areDistributed_79 rfl ?_
        refine ll_get 80 X (by decide +kernel) 1 (by decide) (v := .ref (K 0)) rfl (by decide +kernel) rfl dL_areDistributed_80 ?_
        refine zz_bipush 83 X.1 (v := nI 6) dL_areDistributed_83 rfl ?_
        refine zz_iconst 85 X.1 (v := nI 1) dL_areDistributed_85 rfl ?_
        refine ll_callDi 86 X hml hAp (As := [.int (nI 6), .int (nI 1)]) (kt_X6_unite_ok l D C K hAp.1 F hs10 G T 6 1 (by first | rfl | assumption | omega) (by first | rfl | assumption | omega)) gL_areDistributed_X6_unite rfl ⟨rfl, rfl⟩ yd_X6_unite ⟨Nat.le_of_ble_eq_true rfl, Nat.le_of_ble_eq_true rfl⟩ rfl rfl (Nat.le_of_ble_eq_true rfl) ⟨Nat.le_of_ble_eq_true rfl, Nat.le_of_ble_eq_true rfl⟩ dL_areDistributed_86 ?_
        rintro r11 ⟨F11, hs11, G11, T11⟩ hu11
        obtain ⟨rfl, hv11⟩ := hu11
        cases hv11
        refine zz_world (P' := (LPo D C K kL kH (x, (F, (sS hs10 6 (fun i => pJ 124 (hM hs10 6 i) (hM hs10 1 i))), G, T), b))) (fun _ h => h) ?_
        obtain ⟨hs12, eh12⟩ : ∃ h, h = sS hs10 6 (fun i => pJ 124 (hM hs10 6 i) (hM hs10 1 i)) := ⟨_, rfl⟩
        refine zz_world (P' := (LPo D C K kL kH (x, (F, hs12, G, T), b))) (lp_hs eh12.symm) ?_
        have g12_6 : ∀ i, i < 1024 → hM hs12 6 i = (pJ 124 ((hM hs 0 i)) (hM hs 1 i)) := fun i hi => (by rw [eh12]; exact hM_sS hi : hM hs12 6 i = (fun i => pJ 124 (hM hs10 6 i) (hM hs10 1 i)) i).trans ((fun i hi => cg2 (g10_6 i hi) (g10_1 i hi)) i hi)
        have g12_0 : ∀ i, i < 1024 → hM hs12 0 i = (hM hs 0 i) := fun i hi => (by rw [eh12]; exact hM_sSo (by omega) hi : hM hs12 0 i = hM hs10 0 i).trans (g10_0 i hi)
        have g12_1 : ∀ i, i < 1024 → hM hs12 1 i = (hM hs 1 i) := fun i hi => (by rw [eh12]; exact hM_sSo (by omega) hi : hM hs12 1 i = hM hs10 1 i).trans (g10_1 i hi)
        have g12_2 : ∀ i, i < 1024 → hM hs12 2 i = (hM hs 2 i) := fun i hi => (by rw [eh12]; exact hM_sSo (by omega) hi : hM hs12 2 i = hM hs10 2 i).trans (g10_2 i hi)
        have g12_5 : ∀ i, i < 1024 → hM hs12 5 i = (pJ 124 (pJ 38 ((hM hs 1 i)) (hM hs 2 i)) (hM hs 0 i)) := fun i hi => (by rw [eh12]; exact hM_sSo (by omega) hi : hM hs12 5 i = hM hs10 5 i).trans (g10_5 i hi)
        have g12_7 : ∀ i, i < 1024 → hM hs12 7 i = ((hM hs 0 i)) := fun i hi => (by rw [eh12]; exact hM_sSo (by omega) hi : hM hs12 7 i = hM hs10 7 i).trans (g10_7 i hi)
        have rd12 : RD hs12 b := eh12 ▸ RD_sS rd10 (by omega)
        refine zz_topi (nI (ct (fun i => pJ 124 ((hM hs 0 i)) (hM hs 1 i)) 1024)) (congrArg nI (ct_cong (fun i hi => cg2 (g10_6 i hi) (g10_1 i hi)))) ?_
        refine zz_goto 89 102 X.1 dL_areDistributed_89 (by decide) ?_
        refine zz_istore 102 X.1 (lv' := [(4, .int (nI (ct (fun i => pJ 124 ((hM hs 0 i)) (hM hs 1 i)) 1024))), (3, .int (nI (ct (fun i => pJ 124 (pJ 38 ((hM hs 1 i)) (hM hs 2 i)) (hM hs 0 i)) 1024))), (2, .int (nI (ct (fun i => pJ 38 ((hM hs 1 i)) (hM hs 2 i)) 1024))), (0, .ref kL), (1, .int (bI true))]) dL_areDistributed_102 (by decide) rfl ?_
        refine zz_iload_n 104 X.1 4 dL_areDistributed_104 rfl ?_
        refine zz_ifB_eq 105 121 X.1 dL_areDistributed_105 (by decide) (fun h105 => ?_) (fun h105 => ?_)
        · exact absurd h105 (by decide)
        · skip
          refine zz_aload_n 108 X.1 3 dL_areDistributed_108 rfl ?_
          refine ll_get 109 X (by decide +kernel) 1 (by decide) (v := .ref (K 0)) rfl (by decide +kernel) rfl dL_areDistributed_109 ?_
          refine zz_bipush 112 X.1 (v := nI 7) dL_areDistributed_112 rfl ?_
          refine zz_iconst 114 X.1 (v := nI 2) dL_areDistributed_114 rfl ?_
          refine ll_callDi 115 X hml hAp (As := [.int (nI 7), .int (nI 2)]) (kt_X6_unite_ok l D C K hAp.1 F hs12 G T 7 2 (by first | rfl | assumption | omega) (by first | rfl | assumption | omega)) gL_areDistributed_X6_unite rfl ⟨rfl, rfl⟩ yd_X6_unite ⟨Nat.le_of_ble_eq_true rfl, Nat.le_of_ble_eq_true rfl⟩ rfl rfl (Nat.le_of_ble_eq_true rfl) ⟨Nat.le_of_ble_eq_true rfl, Nat.le_of_ble_eq_true rfl⟩ dL_areDistributed_115 ?_
          rintro r13 ⟨F13, hs13, G13, T13⟩ hu13
          obtain ⟨rfl, hv13⟩ := hu13
          cases hv13
          refine zz_world (P' := (LPo D C K kL kH (x, (F, (sS hs12 7 (fun i => pJ 124 (hM hs12 7 i) (hM hs12 2 i))), G, T), b))) (fun _ h => h) ?_
          obtain ⟨hs14, eh14⟩ : ∃ h, h = sS hs12 7 (fun i => pJ 124 (hM hs12 7 i) (hM hs12 2 i)) := ⟨_, rfl⟩
          refine zz_world (P' := (LPo D C K kL kH (x, (F, hs14, G, T), b))) (lp_hs eh14.symm) ?_
          have g14_7 : ∀ i, i < 1024 → hM hs14 7 i = (pJ 124 ((hM hs 0 i)) (hM hs 2 i)) := fun i hi => (by rw [eh14]; exact hM_sS hi : hM hs14 7 i = (fun i => pJ 124 (hM hs12 7 i) (hM hs12 2 i)) i).trans ((fun i hi => cg2 (g12_7 i hi) (g12_2 i hi)) i hi)
          have g14_0 : ∀ i, i < 1024 → hM hs14 0 i = (hM hs 0 i) := fun i hi => (by rw [eh14]; exact hM_sSo (by omega) hi : hM hs14 0 i = hM hs12 0 i).trans (g12_0 i hi)
          have g14_1 : ∀ i, i < 1024 → hM hs14 1 i = (hM hs 1 i) := fun i hi => (by rw [eh14]; exact hM_sSo (by omega) hi : hM hs14 1 i = hM hs12 1 i).trans (g12_1 i hi)
          have g14_2 : ∀ i, i < 1024 → hM hs14 2 i = (hM hs 2 i) := fun i hi => (by rw [eh14]; exact hM_sSo (by omega) hi : hM hs14 2 i = hM hs12 2 i).trans (g12_2 i hi)
          have g14_5 : ∀ i, i < 1024 → hM hs14 5 i = (pJ 124 (pJ 38 ((hM hs 1 i)) (hM hs 2 i)) (hM hs 0 i)) := fun i hi => (by rw [eh14]; exact hM_sSo (by omega) hi : hM hs14 5 i = hM hs12 5 i).trans (g12_5 i hi)
          have g14_6 : ∀ i, i < 1024 → hM hs14 6 i = (pJ 124 ((hM hs 0 i)) (hM hs 1 i)) := fun i hi => (by rw [eh14]; exact hM_sSo (by omega) hi : hM hs14 6 i = hM hs12 6 i).trans (g12_6 i hi)
          have rd14 : RD hs14 b := eh14 ▸ RD_sS rd12 (by omega)
          refine zz_topi (nI (ct (fun i => pJ 124 ((hM hs 0 i)) (hM hs 2 i)) 1024)) (congrArg nI (ct_cong (fun i hi => cg2 (g12_7 i hi) (g12_2 i hi)))) ?_
          refine zz_goto 118 131 X.1 dL_areDistributed_118 (by decide) ?_
          refine zz_istore 131 X.1 (lv' := [(5, .int (nI (ct (fun i => pJ 124 ((hM hs 0 i)) (hM hs 2 i)) 1024))), (4, .int (nI (ct (fun i => pJ 124 ((hM hs 0 i)) (hM hs 1 i)) 1024))), (3, .int (nI (ct (fun i => pJ 124 (pJ 38 ((hM hs 1 i)) (hM hs 2 i)) (hM hs 0 i)) 1024))), (2, .int (nI (ct (fun i => pJ 38 ((hM hs 1 i)) (hM hs 2 i)) 1024))), (0, .ref kL), (1, .int (bI true))]) dL_areDistributed_131 (by decide) rfl ?_
          refine zz_iload_n 133 X.1 5 dL_areDistributed_133 rfl ?_
          refine zz_ifB_eq 134 151 X.1 dL_areDistributed_134 (by decide) (fun h134 => ?_) (fun h134 => ?_)
          · exact absurd h134 (by decide)
          · skip
            refine zz_aload_n 137 X.1 4 dL_areDistributed_137 rfl ?_
            refine ll_get 138 X (by decide +kernel) 1 (by decide) (v := .ref (K 0)) rfl (by decide +kernel) rfl dL_areDistributed_138 ?_
            refine zz_bipush 141 X.1 (v := nI 6) dL_areDistributed_141 rfl ?_
            refine zz_bipush 143 X.1 (v := nI 7) dL_areDistributed_143 rfl ?_
            refine ll_callDi 145 X hml hAp (As := [.int (nI 6), .int (nI 7)]) (kt_X6_intersect_ok l D C K hAp.1 F hs14 G T 6 7 (by first | rfl | assumption | omega) (by first | rfl | assumption | omega)) gL_areDistributed_X6_intersect rfl ⟨rfl, rfl⟩ yd_X6_intersect ⟨Nat.le_of_ble_eq_true rfl, Nat.le_of_ble_eq_true rfl⟩ rfl rfl (Nat.le_of_ble_eq_true rfl) ⟨Nat.le_of_ble_eq_true rfl, Nat.le_of_ble_eq_true rfl⟩ dL_areDistributed_145 ?_
            rintro r15 ⟨F15, hs15, G15, T15⟩ hu15
            obtain ⟨rfl, hv15⟩ := hu15
            cases hv15
            refine zz_world (P' := (LPo D C K kL kH (x, (F, (sS hs14 6 (fun i => pJ 38 (hM hs14 6 i) (hM hs14 7 i))), G, T), b))) (fun _ h => h) ?_
            obtain ⟨hs16, eh16⟩ : ∃ h, h = sS hs14 6 (fun i => pJ 38 (hM hs14 6 i) (hM hs14 7 i)) := ⟨_, rfl⟩
            refine zz_world (P' := (LPo D C K kL kH (x, (F, hs16, G, T), b))) (lp_hs eh16.symm) ?_
            have g16_6 : ∀ i, i < 1024 → hM hs16 6 i = (pJ 38 (pJ 124 ((hM hs 0 i)) (hM hs 1 i)) (pJ 124 ((hM hs 0 i)) (hM hs 2 i))) := fun i hi => (by rw [eh16]; exact hM_sS hi : hM hs16 6 i = (fun i => pJ 38 (hM hs14 6 i) (hM hs14 7 i)) i).trans ((fun i hi => cg2 (g14_6 i hi) (g14_7 i hi)) i hi)
            have g16_0 : ∀ i, i < 1024 → hM hs16 0 i = (hM hs 0 i) := fun i hi => (by rw [eh16]; exact hM_sSo (by omega) hi : hM hs16 0 i = hM hs14 0 i).trans (g14_0 i hi)
            have g16_1 : ∀ i, i < 1024 → hM hs16 1 i = (hM hs 1 i) := fun i hi => (by rw [eh16]; exact hM_sSo (by omega) hi : hM hs16 1 i = hM hs14 1 i).trans (g14_1 i hi)
            have g16_2 : ∀ i, i < 1024 → hM hs16 2 i = (hM hs 2 i) := fun i hi => (by rw [eh16]; exact hM_sSo (by omega) hi : hM hs16 2 i = hM hs14 2 i).trans (g14_2 i hi)
            have g16_5 : ∀ i, i < 1024 → hM hs16 5 i = (pJ 124 (pJ 38 ((hM hs 1 i)) (hM hs 2 i)) (hM hs 0 i)) := fun i hi => (by rw [eh16]; exact hM_sSo (by omega) hi : hM hs16 5 i = hM hs14 5 i).trans (g14_5 i hi)
            have g16_7 : ∀ i, i < 1024 → hM hs16 7 i = (pJ 124 ((hM hs 0 i)) (hM hs 2 i)) := fun i hi => (by rw [eh16]; exact hM_sSo (by omega) hi : hM hs16 7 i = hM hs14 7 i).trans (g14_7 i hi)
            have rd16 : RD hs16 b := eh16 ▸ RD_sS rd14 (by omega)
            refine zz_topi (nI (ct (fun i => pJ 38 (pJ 124 ((hM hs 0 i)) (hM hs 1 i)) (pJ 124 ((hM hs 0 i)) (hM hs 2 i))) 1024)) (congrArg nI (ct_cong (fun i hi => cg2 (g14_6 i hi) (g14_7 i hi)))) ?_
            refine zz_goto 148 162 X.1 dL_areDistributed_148 (by decide) ?_
            refine zz_istore 162 X.1 (lv' := [(6, .int (nI (ct (fun i => pJ 38 (pJ 124 ((hM hs 0 i)) (hM hs 1 i)) (pJ 124 ((hM hs 0 i)) (hM hs 2 i))) 1024))), (5, .int (nI (ct (fun i => pJ 124 ((hM hs 0 i)) (hM hs 2 i)) 1024))), (4, .int (nI (ct (fun i => pJ 124 ((hM hs 0 i)) (hM hs 1 i)) 1024))), (3, .int (nI (ct (fun i => pJ 124 (pJ 38 ((hM hs 1 i)) (hM hs 2 i)) (hM hs 0 i)) 1024))), (2, .int (nI (ct (fun i => pJ 38 ((hM hs 1 i)) (hM hs 2 i)) 1024))), (0, .ref kL), (1, .int (bI true))]) dL_areDistributed_162 (by decide) rfl ?_
            refine zz_iload_n 164 X.1 4 dL_areDistributed_164 rfl ?_
            refine zz_if_lt 165 203 X.1 (nI_toInt (by omega)) dL_areDistributed_165 (by decide) (fun h165 => ?_) (fun h165 => ?_)
            · exfalso; omega
            · skip
              refine zz_iload 168 X.1 2 dL_areDistributed_168 rfl ?_
              refine zz_iload 170 X.1 1 dL_areDistributed_170 rfl ?_
              refine zz_iadd 172 X.1 (v := (nI ((ct (fun i => pJ 124 ((hM hs 0 i)) (hM hs 1 i)) 1024) + (ct (fun i => pJ 124 ((hM hs 0 i)) (hM hs 2 i)) 1024)))) dL_areDistributed_172 (nI_add _ _) ?_
              refine zz_iload 173 X.1 0 dL_areDistributed_173 rfl ?_
              refine zz_iload_n 175 X.1 3 dL_areDistributed_175 rfl ?_
              refine zz_isub 176 X.1 (v := (nI ((ct (fun i => pJ 38 (pJ 124 ((hM hs 0 i)) (hM hs 1 i)) (pJ 124 ((hM hs 0 i)) (hM hs 2 i))) 1024) - (ct (fun i => pJ 124 (pJ 38 ((hM hs 1 i)) (hM hs 2 i)) (hM hs 0 i)) 1024)))) dL_areDistributed_176 (pk_sub (by omega)) ?_
              refine zz_icmp_lt 177 203 X.1 (nI_toInt (by omega)) (nI_toInt (by omega)) dL_areDistributed_177 (by decide) (fun h177 => ?_) (fun h177 => ?_)
              · exfalso; omega
              · skip
                refine zz_iload_n 180 X.1 3 dL_areDistributed_180 rfl ?_
                refine zz_iload 181 X.1 0 dL_areDistributed_181 rfl ?_
                refine zz_icmp_ne 183 203 X.1 (nI_toInt (by omega)) (nI_toInt (by omega)) dL_areDistributed_183 (by decide) (fun h183 => ?_) (fun h183 => ?_)
                · exfalso; omega
                · skip
                  refine zz_aload_n 186 X.1 5 dL_areDistributed_186 rfl ?_
                  refine ll_get 187 X (by decide +kernel) 1 (by decide) (v := .ref (K 0)) rfl (by decide +kernel) rfl dL_areDistributed_187 ?_
                  refine zz_iconst 190 X.1 (v := nI 5) dL_areDistributed_190 rfl ?_
                  refine zz_bipush 191 X.1 (v := nI 6) dL_areDistributed_191 rfl ?_
                  refine ll_callDi 193 X hml hAp (As := [.int (nI 5), .int (nI 6)]) (kt_X6_areEqual_ok l D C K hAp.1 F hs16 G T 5 6 (by first | rfl | assumption | omega) (by first | rfl | assumption | omega)) gL_areDistributed_X6_areEqual rfl ⟨rfl, rfl⟩ yd_X6_areEqual ⟨Nat.le_of_ble_eq_true rfl, Nat.le_of_ble_eq_true rfl⟩ rfl rfl (Nat.le_of_ble_eq_true rfl) ⟨Nat.le_of_ble_eq_true rfl, Nat.le_of_ble_eq_true rfl⟩ dL_areDistributed_193 ?_
                  rintro r17 ⟨F17, hs17, G17, T17⟩ hu17
                  obtain ⟨rfl, hv17⟩ := hu17
                  cases hv17
                  refine zz_world (P' := (LPo D C K kL kH (x, (F, hs16, G, T), b))) (fun _ h => h) ?_
                  refine zz_ifB_eq 196 203 X.1 dL_areDistributed_196 (by decide) (fun h196 => ?_) (fun h196 => ?_)
                  · exfalso; exact absurd ((eq_t (fun i hi => by rw [g16_5 i hi, g16_6 i hi]; exact hdl i hi)).symm.trans h196) (by decide)
                  · skip
                    refine zz_iconst 199 X.1 (v := nI 1) dL_areDistributed_199 rfl ?_
                    refine zz_goto 200 204 X.1 dL_areDistributed_200 (by decide) ?_
                    refine zz_topi (bI true) rfl ?_
                    rw [← hQ]
                    refine zz_iret 204 X.1 hr (bI_nar _) hlk (x, (F, hs16, G, T), b) ?_ (fun _ h _ => h) dL_areDistributed_204
                    exact ⟨_, rfl, rfl, rd16⟩

set_option maxHeartbeats 4000000 in
set_option maxRecDepth 100000 in
theorem kt_L_areDistributed_f (l : Launch) (D : va_G) (C : Nat → ClassId) (K : Nat → Nat) (kL kH : Nat) (ad : Nat → Nat) (hAp : LAp K kL kH) (x : Int32) (F : Nat → Int32) (hs : Nat → Bool) (G T : Nat → Nat → Int32) (b : Nat → Bool)  (hrd : RD hs b) : LMi l yL_areDistributed wsL_areDistributed rm_L_areDistributed D C K kL kH ad 0 0 [.int (bI false)] x F hs G T b (fun (r : Int32) (q : LSt) => ∃ (hs1 : Nat → Bool), r = (bI true) ∧ q = (x, (F, hs1, G, T), b) ∧ RD hs1 b) := by
  refine LMi_of (lv := [(0, .ref kL), (1, .int (bI false))]) (cc := cL_areDistributed) (maxL := 7) (ret := (some .boolean)) rfl (by decide +kernel) (Nat.le_of_ble_eq_true rfl) rfl ?_
  intro p e s m args below meth c X hLA hml hr hlk
  generalize hQ : MQ below _ args s 0 0 _ = Q
  refine zz_aload_n 0 X.1 0 dL_areDistributed_0 rfl ?_
  refine zz_iconst 1 X.1 (v := nI 5) dL_areDistributed_1 rfl ?_
  refine zz_iconst 2 X.1 (v := nI 1) dL_areDistributed_2 rfl ?_
  refine zz_iconst 3 X.1 (v := nI 0) dL_areDistributed_3 rfl ?_
  refine ll_callLv 4 X hLA hml (As := [.int (nI 5), .int (nI 1), .int (bI false)]) (kt_L_copies l D C K kL kH ad hAp x F hs G T b 5 1 false (by first | rfl | assumption | omega) (by first | rfl | assumption | omega)) gL_areDistributed_L_copies rfl ⟨rfl, rfl⟩ yd_L_copies ⟨Nat.le_of_ble_eq_true rfl, Nat.le_of_ble_eq_true rfl⟩ rfl rfl (Nat.le_of_ble_eq_true rfl) ⟨Nat.le_of_ble_eq_true rfl, Nat.le_of_ble_eq_true rfl⟩ dL_areDistributed_4 ?_
  rintro ⟨x1, ⟨F1, hs1, G1, T1⟩, b1⟩ hu1
  have hv1 := hu1
  cases hv1
  refine zz_world (P' := (LPo D C K kL kH (x, (F, (sS hs 5 (fun i => false ^^ hM hs 1 i)), G, T), b))) (fun _ h => h) ?_
  obtain ⟨hs2, eh2⟩ : ∃ h, h = sS hs 5 (fun i => false ^^ hM hs 1 i) := ⟨_, rfl⟩
  refine zz_world (P' := (LPo D C K kL kH (x, (F, hs2, G, T), b))) (lp_hs eh2.symm) ?_
  have g2_5 : ∀ i, i < 1024 → hM hs2 5 i = ((hM hs 1 i)) := fun i hi => (by rw [eh2]; exact hM_sS hi : hM hs2 5 i = (fun i => false ^^ hM hs 1 i) i).trans ((fun i hi => (Bool.false_xor _).trans ((fun _ _ => rfl) i hi)) i hi)
  have g2_0 : ∀ i, i < 1024 → hM hs2 0 i = (hM hs 0 i) := fun i hi => (by rw [eh2]; exact hM_sSo (by omega) hi : hM hs2 0 i = hM hs 0 i).trans ((fun _ _ => rfl) i hi)
  have g2_1 : ∀ i, i < 1024 → hM hs2 1 i = (hM hs 1 i) := fun i hi => (by rw [eh2]; exact hM_sSo (by omega) hi : hM hs2 1 i = hM hs 1 i).trans ((fun _ _ => rfl) i hi)
  have g2_2 : ∀ i, i < 1024 → hM hs2 2 i = (hM hs 2 i) := fun i hi => (by rw [eh2]; exact hM_sSo (by omega) hi : hM hs2 2 i = hM hs 2 i).trans ((fun _ _ => rfl) i hi)
  have rd2 : RD hs2 b := eh2 ▸ RD_sS hrd (by omega)
  have hdl : ∀ i, i < 1024 → pJ 38 (pJ 124 (hM hs 1 i) (hM hs 2 i)) (hM hs 0 i) = pJ 124 (pJ 38 (hM hs 0 i) (hM hs 1 i)) (pJ 38 (hM hs 0 i) (hM hs 2 i)) := fun i hi => by cases hM hs 0 i <;> cases hM hs 1 i <;> cases hM hs 2 i <;> rfl
  have e01 : ct (fun i => pJ 38 (pJ 124 (hM hs 1 i) (hM hs 2 i)) (hM hs 0 i)) 1024 = ct (fun i => pJ 124 (pJ 38 (hM hs 0 i) (hM hs 1 i)) (pJ 38 (hM hs 0 i) (hM hs 2 i))) 1024 := ct_cong hdl
  have le0 := ct_le (fun i => pJ 38 (hM hs 0 i) (hM hs 1 i)) 1024
  have le1 := ct_le (fun i => pJ 38 (hM hs 0 i) (hM hs 2 i)) 1024
  have le2 := ct_le (fun i => pJ 124 (hM hs 1 i) (hM hs 2 i)) 1024
  have le3 := ct_le (fun i => pJ 38 (pJ 124 (hM hs 1 i) (hM hs 2 i)) (hM hs 0 i)) 1024
  have le4 := ct_le (fun i => pJ 124 (pJ 38 (hM hs 0 i) (hM hs 1 i)) (pJ 38 (hM hs 0 i) (hM hs 2 i))) 1024
  refine zz_iload_n 7 X.1 1 dL_areDistributed_7 rfl ?_
  refine zz_ifB_eq 8 23 X.1 dL_areDistributed_8 (by decide) (fun h8 => ?_) (fun h8 => ?_)
  · skip
    refine zz_aload_n 23 X.1 0 dL_areDistributed_23 rfl ?_
    refine ll_get 24 X (by decide +kernel) 1 (by decide) (v := .ref (K 0)) rfl (by decide +kernel) rfl dL_areDistributed_24 ?_
    refine zz_iconst 27 X.1 (v := nI 5) dL_areDistributed_27 rfl ?_
    refine zz_iconst 28 X.1 (v := nI 2) dL_areDistributed_28 rfl ?_
    refine ll_callDi 29 X hml hAp (As := [.int (nI 5), .int (nI 2)]) (kt_X6_unite_ok l D C K hAp.1 F hs2 G T 5 2 (by first | rfl | assumption | omega) (by first | rfl | assumption | omega)) gL_areDistributed_X6_unite rfl ⟨rfl, rfl⟩ yd_X6_unite ⟨Nat.le_of_ble_eq_true rfl, Nat.le_of_ble_eq_true rfl⟩ rfl rfl (Nat.le_of_ble_eq_true rfl) ⟨Nat.le_of_ble_eq_true rfl, Nat.le_of_ble_eq_true rfl⟩ dL_areDistributed_29 ?_
    rintro r3 ⟨F3, hs3, G3, T3⟩ hu3
    obtain ⟨rfl, hv3⟩ := hu3
    cases hv3
    refine zz_world (P' := (LPo D C K kL kH (x, (F, (sS hs2 5 (fun i => pJ 124 (hM hs2 5 i) (hM hs2 2 i))), G, T), b))) (fun _ h => h) ?_
    obtain ⟨hs4, eh4⟩ : ∃ h, h = sS hs2 5 (fun i => pJ 124 (hM hs2 5 i) (hM hs2 2 i)) := ⟨_, rfl⟩
    refine zz_world (P' := (LPo D C K kL kH (x, (F, hs4, G, T), b))) (lp_hs eh4.symm) ?_
    have g4_5 : ∀ i, i < 1024 → hM hs4 5 i = (pJ 124 ((hM hs 1 i)) (hM hs 2 i)) := fun i hi => (by rw [eh4]; exact hM_sS hi : hM hs4 5 i = (fun i => pJ 124 (hM hs2 5 i) (hM hs2 2 i)) i).trans ((fun i hi => cg2 (g2_5 i hi) (g2_2 i hi)) i hi)
    have g4_0 : ∀ i, i < 1024 → hM hs4 0 i = (hM hs 0 i) := fun i hi => (by rw [eh4]; exact hM_sSo (by omega) hi : hM hs4 0 i = hM hs2 0 i).trans (g2_0 i hi)
    have g4_1 : ∀ i, i < 1024 → hM hs4 1 i = (hM hs 1 i) := fun i hi => (by rw [eh4]; exact hM_sSo (by omega) hi : hM hs4 1 i = hM hs2 1 i).trans (g2_1 i hi)
    have g4_2 : ∀ i, i < 1024 → hM hs4 2 i = (hM hs 2 i) := fun i hi => (by rw [eh4]; exact hM_sSo (by omega) hi : hM hs4 2 i = hM hs2 2 i).trans (g2_2 i hi)
    have rd4 : RD hs4 b := eh4 ▸ RD_sS rd2 (by omega)
    refine zz_topi (nI (ct (fun i => pJ 124 ((hM hs 1 i)) (hM hs 2 i)) 1024)) (congrArg nI (ct_cong (fun i hi => cg2 (g2_5 i hi) (g2_2 i hi)))) ?_
    refine zz_istore_n 32 X.1 (lv' := [(2, .int (nI (ct (fun i => pJ 124 ((hM hs 1 i)) (hM hs 2 i)) 1024))), (0, .ref kL), (1, .int (bI false))]) dL_areDistributed_32 (by decide) rfl ?_
    refine zz_iload_n 33 X.1 2 dL_areDistributed_33 rfl ?_
    refine zz_ifB_eq 34 49 X.1 dL_areDistributed_34 (by decide) (fun h34 => ?_) (fun h34 => ?_)
    · skip
      refine zz_aload_n 49 X.1 1 dL_areDistributed_49 rfl ?_
      refine ll_get 50 X (by decide +kernel) 1 (by decide) (v := .ref (K 0)) rfl (by decide +kernel) rfl dL_areDistributed_50 ?_
      refine zz_iconst 53 X.1 (v := nI 5) dL_areDistributed_53 rfl ?_
      refine zz_iconst 54 X.1 (v := nI 0) dL_areDistributed_54 rfl ?_
      refine ll_callDi 55 X hml hAp (As := [.int (nI 5), .int (nI 0)]) (kt_X6_intersect_ok l D C K hAp.1 F hs4 G T 5 0 (by first | rfl | assumption | omega) (by first | rfl | assumption | omega)) gL_areDistributed_X6_intersect rfl ⟨rfl, rfl⟩ yd_X6_intersect ⟨Nat.le_of_ble_eq_true rfl, Nat.le_of_ble_eq_true rfl⟩ rfl rfl (Nat.le_of_ble_eq_true rfl) ⟨Nat.le_of_ble_eq_true rfl, Nat.le_of_ble_eq_true rfl⟩ dL_areDistributed_55 ?_
      rintro r5 ⟨F5, hs5, G5, T5⟩ hu5
      obtain ⟨rfl, hv5⟩ := hu5
      cases hv5
      refine zz_world (P' := (LPo D C K kL kH (x, (F, (sS hs4 5 (fun i => pJ 38 (hM hs4 5 i) (hM hs4 0 i))), G, T), b))) (fun _ h => h) ?_
      obtain ⟨hs6, eh6⟩ : ∃ h, h = sS hs4 5 (fun i => pJ 38 (hM hs4 5 i) (hM hs4 0 i)) := ⟨_, rfl⟩
      refine zz_world (P' := (LPo D C K kL kH (x, (F, hs6, G, T), b))) (lp_hs eh6.symm) ?_
      have g6_5 : ∀ i, i < 1024 → hM hs6 5 i = (pJ 38 (pJ 124 ((hM hs 1 i)) (hM hs 2 i)) (hM hs 0 i)) := fun i hi => (by rw [eh6]; exact hM_sS hi : hM hs6 5 i = (fun i => pJ 38 (hM hs4 5 i) (hM hs4 0 i)) i).trans ((fun i hi => cg2 (g4_5 i hi) (g4_0 i hi)) i hi)
      have g6_0 : ∀ i, i < 1024 → hM hs6 0 i = (hM hs 0 i) := fun i hi => (by rw [eh6]; exact hM_sSo (by omega) hi : hM hs6 0 i = hM hs4 0 i).trans (g4_0 i hi)
      have g6_1 : ∀ i, i < 1024 → hM hs6 1 i = (hM hs 1 i) := fun i hi => (by rw [eh6]; exact hM_sSo (by omega) hi : hM hs6 1 i = hM hs4 1 i).trans (g4_1 i hi)
      have g6_2 : ∀ i, i < 1024 → hM hs6 2 i = (hM hs 2 i) := fun i hi => (by rw [eh6]; exact hM_sSo (by omega) hi : hM hs6 2 i = hM hs4 2 i).trans (g4_2 i hi)
      have rd6 : RD hs6 b := eh6 ▸ RD_sS rd4 (by omega)
      refine zz_topi (nI (ct (fun i => pJ 38 (pJ 124 ((hM hs 1 i)) (hM hs 2 i)) (hM hs 0 i)) 1024)) (congrArg nI (ct_cong (fun i hi => cg2 (g4_5 i hi) (g4_0 i hi)))) ?_
      refine zz_istore_n 58 X.1 (lv' := [(3, .int (nI (ct (fun i => pJ 38 (pJ 124 ((hM hs 1 i)) (hM hs 2 i)) (hM hs 0 i)) 1024))), (2, .int (nI (ct (fun i => pJ 124 ((hM hs 1 i)) (hM hs 2 i)) 1024))), (0, .ref kL), (1, .int (bI false))]) dL_areDistributed_58 (by decide) rfl ?_
      refine zz_aload_n 59 X.1 2 dL_areDistributed_59 rfl ?_
      refine zz_bipush 60 X.1 (v := nI 6) dL_areDistributed_60 rfl ?_
      refine zz_iconst 62 X.1 (v := nI 0) dL_areDistributed_62 rfl ?_
      refine zz_iconst 63 X.1 (v := nI 0) dL_areDistributed_63 rfl ?_
      refine ll_callLv 64 X hLA hml (As := [.int (nI 6), .int (nI 0), .int (bI false)]) (kt_L_copies l D C K kL kH ad hAp x F hs6 G T b 6 0 false (by first | rfl | assumption | omega) (by first | rfl | assumption | omega)) gL_areDistributed_L_copies rfl ⟨rfl, rfl⟩ yd_L_copies ⟨Nat.le_of_ble_eq_true rfl, Nat.le_of_ble_eq_true rfl⟩ rfl rfl (Nat.le_of_ble_eq_true rfl) ⟨Nat.le_of_ble_eq_true rfl, Nat.le_of_ble_eq_true rfl⟩ dL_areDistributed_64 ?_
      rintro ⟨x7, ⟨F7, hs7, G7, T7⟩, b7⟩ hu7
      have hv7 := hu7
      cases hv7
      refine zz_world (P' := (LPo D C K kL kH (x, (F, (sS hs6 6 (fun i => false ^^ hM hs6 0 i)), G, T), b))) (fun _ h => h) ?_
      obtain ⟨hs8, eh8⟩ : ∃ h, h = sS hs6 6 (fun i => false ^^ hM hs6 0 i) := ⟨_, rfl⟩
      refine zz_world (P' := (LPo D C K kL kH (x, (F, hs8, G, T), b))) (lp_hs eh8.symm) ?_
      have g8_6 : ∀ i, i < 1024 → hM hs8 6 i = ((hM hs 0 i)) := fun i hi => (by rw [eh8]; exact hM_sS hi : hM hs8 6 i = (fun i => false ^^ hM hs6 0 i) i).trans ((fun i hi => (Bool.false_xor _).trans (g6_0 i hi)) i hi)
      have g8_0 : ∀ i, i < 1024 → hM hs8 0 i = (hM hs 0 i) := fun i hi => (by rw [eh8]; exact hM_sSo (by omega) hi : hM hs8 0 i = hM hs6 0 i).trans (g6_0 i hi)
      have g8_1 : ∀ i, i < 1024 → hM hs8 1 i = (hM hs 1 i) := fun i hi => (by rw [eh8]; exact hM_sSo (by omega) hi : hM hs8 1 i = hM hs6 1 i).trans (g6_1 i hi)
      have g8_2 : ∀ i, i < 1024 → hM hs8 2 i = (hM hs 2 i) := fun i hi => (by rw [eh8]; exact hM_sSo (by omega) hi : hM hs8 2 i = hM hs6 2 i).trans (g6_2 i hi)
      have g8_5 : ∀ i, i < 1024 → hM hs8 5 i = (pJ 38 (pJ 124 ((hM hs 1 i)) (hM hs 2 i)) (hM hs 0 i)) := fun i hi => (by rw [eh8]; exact hM_sSo (by omega) hi : hM hs8 5 i = hM hs6 5 i).trans (g6_5 i hi)
      have rd8 : RD hs8 b := eh8 ▸ RD_sS rd6 (by omega)
      refine zz_aload_n 67 X.1 2 dL_areDistributed_67 rfl ?_
      refine zz_bipush 68 X.1 (v := nI 7) dL_areDistributed_68 rfl ?_
      refine zz_iconst 70 X.1 (v := nI 0) dL_areDistributed_70 rfl ?_
      refine zz_iconst 71 X.1 (v := nI 0) dL_areDistributed_71 rfl ?_
      refine ll_callLv 72 X hLA hml (As := [.int (nI 7), .int (nI 0), .int (bI false)]) (kt_L_copies l D C K kL kH ad hAp x F hs8 G T b 7 0 false (by first | rfl | assumption | omega) (by first | rfl | assumption | omega)) gL_areDistributed_L_copies rfl ⟨rfl, rfl⟩ yd_L_copies ⟨Nat.le_of_ble_eq_true rfl, Nat.le_of_ble_eq_true rfl⟩ rfl rfl (Nat.le_of_ble_eq_true rfl) ⟨Nat.le_of_ble_eq_true rfl, Nat.le_of_ble_eq_true rfl⟩ dL_areDistributed_72 ?_
      rintro ⟨x9, ⟨F9, hs9, G9, T9⟩, b9⟩ hu9
      have hv9 := hu9
      cases hv9
      refine zz_world (P' := (LPo D C K kL kH (x, (F, (sS hs8 7 (fun i => false ^^ hM hs8 0 i)), G, T), b))) (fun _ h => h) ?_
      obtain ⟨hs10, eh10⟩ : ∃ h, h = sS hs8 7 (fun i => false ^^ hM hs8 0 i) := ⟨_, rfl⟩
      refine zz_world (P' := (LPo D C K kL kH (x, (F, hs10, G, T), b))) (lp_hs eh10.symm) ?_
      have g10_7 : ∀ i, i < 1024 → hM hs10 7 i = ((hM hs 0 i)) := fun i hi => (by rw [eh10]; exact hM_sS hi : hM hs10 7 i = (fun i => false ^^ hM hs8 0 i) i).trans ((fun i hi => (Bool.false_xor _).trans (g8_0 i hi)) i hi)
      have g10_0 : ∀ i, i < 1024 → hM hs10 0 i = (hM hs 0 i) := fun i hi => (by rw [eh10]; exact hM_sSo (by omega) hi : hM hs10 0 i = hM hs8 0 i).trans (g8_0 i hi)
      have g10_1 : ∀ i, i < 1024 → hM hs10 1 i = (hM hs 1 i) := fun i hi => (by rw [eh10]; exact hM_sSo (by omega) hi : hM hs10 1 i = hM hs8 1 i).trans (g8_1 i hi)
      have g10_2 : ∀ i, i < 1024 → hM hs10 2 i = (hM hs 2 i) := fun i hi => (by rw [eh10]; exact hM_sSo (by omega) hi : hM hs10 2 i = hM hs8 2 i).trans (g8_2 i hi)
      have g10_5 : ∀ i, i < 1024 → hM hs10 5 i = (pJ 38 (pJ 124 ((hM hs 1 i)) (hM hs 2 i)) (hM hs 0 i)) := fun i hi => (by rw [eh10]; exact hM_sSo (by omega) hi : hM hs10 5 i = hM hs8 5 i).trans (g8_5 i hi)
      have g10_6 : ∀ i, i < 1024 → hM hs10 6 i = ((hM hs 0 i)) := fun i hi => (by rw [eh10]; exact hM_sSo (by omega) hi : hM hs10 6 i = hM hs8 6 i).trans (g8_6 i hi)
      have rd10 : RD hs10 b := eh10 ▸ RD_sS rd8 (by omega)
      refine zz_iload_n 75 X.1 3 dL_areDistributed_75 rfl ?_
      refine zz_ifB_eq 76 92 X.1 dL_areDistributed_76 (by decide) (fun h76 => ?_) (fun h76 => ?_)
      · skip
        refine zz_aload_n 92 X.1 2 dL_areDistributed_92 rfl ?_
        refine ll_get 93 X (by decide +kernel) 1 (by decide) (v := .ref (K 0)) rfl (by decide +kernel) rfl dL_areDistributed_93 ?_
        refine zz_bipush 96 X.1 (v := nI 6) dL_areDistributed_96 rfl ?_
        refine zz_iconst 98 X.1 (v := nI 1) dL_areDistributed_98 rfl ?_
        refine ll_callDi 99 X hml hAp (As := [.int (nI 6), .int (nI 1)]) (kt_X6_intersect_ok l D C K hAp.1 F hs10 G T 6 1 (by first | rfl | assumption | omega) (by first | rfl | assumption | omega)) gL_areDistributed_X6_intersect rfl ⟨rfl, rfl⟩ yd_X6_intersect ⟨Nat.le_of_ble_eq_true rfl, Nat.le_of_ble_eq_true rfl⟩ rfl rfl (Nat.le_of_ble_eq_true rfl) ⟨Nat.le_of_ble_eq_true rfl, Nat.le_of_ble_eq_true rfl⟩ dL_areDistributed_99 ?_
        rintro r11 ⟨F11, hs11, G11, T11⟩ hu11
        obtain ⟨rfl, hv11⟩ := hu11
        cases hv11
        refine zz_world (P' := (LPo D C K kL kH (x, (F, (sS hs10 6 (fun i => pJ 38 (hM hs10 6 i) (hM hs10 1 i))), G, T), b))) (fun _ h => h) ?_
        obtain ⟨hs12, eh12⟩ : ∃ h, h = sS hs10 6 (fun i => pJ 38 (hM hs10 6 i) (hM hs10 1 i)) := ⟨_, rfl⟩
        refine zz_world (P' := (LPo D C K kL kH (x, (F, hs12, G, T), b))) (lp_hs eh12.symm) ?_
        have g12_6 : ∀ i, i < 1024 → hM hs12 6 i = (pJ 38 ((hM hs 0 i)) (hM hs 1 i)) := fun i hi => (by rw [eh12]; exact hM_sS hi : hM hs12 6 i = (fun i => pJ 38 (hM hs10 6 i) (hM hs10 1 i)) i).trans ((fun i hi => cg2 (g10_6 i hi) (g10_1 i hi)) i hi)
        have g12_0 : ∀ i, i < 1024 → hM hs12 0 i = (hM hs 0 i) := fun i hi => (by rw [eh12]; exact hM_sSo (by omega) hi : hM hs12 0 i = hM hs10 0 i).trans (g10_0 i hi)
        have g12_1 : ∀ i, i < 1024 → hM hs12 1 i = (hM hs 1 i) := fun i hi => (by rw [eh12]; exact hM_sSo (by omega) hi : hM hs12 1 i = hM hs10 1 i).trans (g10_1 i hi)
        have g12_2 : ∀ i, i < 1024 → hM hs12 2 i = (hM hs 2 i) := fun i hi => (by rw [eh12]; exact hM_sSo (by omega) hi : hM hs12 2 i = hM hs10 2 i).trans (g10_2 i hi)
        have g12_5 : ∀ i, i < 1024 → hM hs12 5 i = (pJ 38 (pJ 124 ((hM hs 1 i)) (hM hs 2 i)) (hM hs 0 i)) := fun i hi => (by rw [eh12]; exact hM_sSo (by omega) hi : hM hs12 5 i = hM hs10 5 i).trans (g10_5 i hi)
        have g12_7 : ∀ i, i < 1024 → hM hs12 7 i = ((hM hs 0 i)) := fun i hi => (by rw [eh12]; exact hM_sSo (by omega) hi : hM hs12 7 i = hM hs10 7 i).trans (g10_7 i hi)
        have rd12 : RD hs12 b := eh12 ▸ RD_sS rd10 (by omega)
        refine zz_topi (nI (ct (fun i => pJ 38 ((hM hs 0 i)) (hM hs 1 i)) 1024)) (congrArg nI (ct_cong (fun i hi => cg2 (g10_6 i hi) (g10_1 i hi)))) ?_
        refine zz_istore 102 X.1 (lv' := [(4, .int (nI (ct (fun i => pJ 38 ((hM hs 0 i)) (hM hs 1 i)) 1024))), (3, .int (nI (ct (fun i => pJ 38 (pJ 124 ((hM hs 1 i)) (hM hs 2 i)) (hM hs 0 i)) 1024))), (2, .int (nI (ct (fun i => pJ 124 ((hM hs 1 i)) (hM hs 2 i)) 1024))), (0, .ref kL), (1, .int (bI false))]) dL_areDistributed_102 (by decide) rfl ?_
        refine zz_iload_n 104 X.1 4 dL_areDistributed_104 rfl ?_
        refine zz_ifB_eq 105 121 X.1 dL_areDistributed_105 (by decide) (fun h105 => ?_) (fun h105 => ?_)
        · skip
          refine zz_aload_n 121 X.1 3 dL_areDistributed_121 rfl ?_
          refine ll_get 122 X (by decide +kernel) 1 (by decide) (v := .ref (K 0)) rfl (by decide +kernel) rfl dL_areDistributed_122 ?_
          refine zz_bipush 125 X.1 (v := nI 7) dL_areDistributed_125 rfl ?_
          refine zz_iconst 127 X.1 (v := nI 2) dL_areDistributed_127 rfl ?_
          refine ll_callDi 128 X hml hAp (As := [.int (nI 7), .int (nI 2)]) (kt_X6_intersect_ok l D C K hAp.1 F hs12 G T 7 2 (by first | rfl | assumption | omega) (by first | rfl | assumption | omega)) gL_areDistributed_X6_intersect rfl ⟨rfl, rfl⟩ yd_X6_intersect ⟨Nat.le_of_ble_eq_true rfl, Nat.le_of_ble_eq_true rfl⟩ rfl rfl (Nat.le_of_ble_eq_true rfl) ⟨Nat.le_of_ble_eq_true rfl, Nat.le_of_ble_eq_true rfl⟩ dL_areDistributed_128 ?_
          rintro r13 ⟨F13, hs13, G13, T13⟩ hu13
          obtain ⟨rfl, hv13⟩ := hu13
          cases hv13
          refine zz_world (P' := (LPo D C K kL kH (x, (F, (sS hs12 7 (fun i => pJ 38 (hM hs12 7 i) (hM hs12 2 i))), G, T), b))) (fun _ h => h) ?_
          obtain ⟨hs14, eh14⟩ : ∃ h, h = sS hs12 7 (fun i => pJ 38 (hM hs12 7 i) (hM hs12 2 i)) := ⟨_, rfl⟩
          refine zz_world (P' := (LPo D C K kL kH (x, (F, hs14, G, T), b))) (lp_hs eh14.symm) ?_
          have g14_7 : ∀ i, i < 1024 → hM hs14 7 i = (pJ 38 ((hM hs 0 i)) (hM hs 2 i)) := fun i hi => (by rw [eh14]; exact hM_sS hi : hM hs14 7 i = (fun i => pJ 38 (hM hs12 7 i) (hM hs12 2 i)) i).trans ((fun i hi => cg2 (g12_7 i hi) (g12_2 i hi)) i hi)
          have g14_0 : ∀ i, i < 1024 → hM hs14 0 i = (hM hs 0 i) := fun i hi => (by rw [eh14]; exact hM_sSo (by omega) hi : hM hs14 0 i = hM hs12 0 i).trans (g12_0 i hi)
          have g14_1 : ∀ i, i < 1024 → hM hs14 1 i = (hM hs 1 i) := fun i hi => (by rw [eh14]; exact hM_sSo (by omega) hi : hM hs14 1 i = hM hs12 1 i).trans (g12_1 i hi)
          have g14_2 : ∀ i, i < 1024 → hM hs14 2 i = (hM hs 2 i) := fun i hi => (by rw [eh14]; exact hM_sSo (by omega) hi : hM hs14 2 i = hM hs12 2 i).trans (g12_2 i hi)
          have g14_5 : ∀ i, i < 1024 → hM hs14 5 i = (pJ 38 (pJ 124 ((hM hs 1 i)) (hM hs 2 i)) (hM hs 0 i)) := fun i hi => (by rw [eh14]; exact hM_sSo (by omega) hi : hM hs14 5 i = hM hs12 5 i).trans (g12_5 i hi)
          have g14_6 : ∀ i, i < 1024 → hM hs14 6 i = (pJ 38 ((hM hs 0 i)) (hM hs 1 i)) := fun i hi => (by rw [eh14]; exact hM_sSo (by omega) hi : hM hs14 6 i = hM hs12 6 i).trans (g12_6 i hi)
          have rd14 : RD hs14 b := eh14 ▸ RD_sS rd12 (by omega)
          refine zz_topi (nI (ct (fun i => pJ 38 ((hM hs 0 i)) (hM hs 2 i)) 1024)) (congrArg nI (ct_cong (fun i hi => cg2 (g12_7 i hi) (g12_2 i hi)))) ?_
          refine zz_istore 131 X.1 (lv' := [(5, .int (nI (ct (fun i => pJ 38 ((hM hs 0 i)) (hM hs 2 i)) 1024))), (4, .int (nI (ct (fun i => pJ 38 ((hM hs 0 i)) (hM hs 1 i)) 1024))), (3, .int (nI (ct (fun i => pJ 38 (pJ 124 ((hM hs 1 i)) (hM hs 2 i)) (hM hs 0 i)) 1024))), (2, .int (nI (ct (fun i => pJ 124 ((hM hs 1 i)) (hM hs 2 i)) 1024))), (0, .ref kL), (1, .int (bI false))]) dL_areDistributed_131 (by decide) rfl ?_
          refine zz_iload_n 133 X.1 5 dL_areDistributed_133 rfl ?_
          refine zz_ifB_eq 134 151 X.1 dL_areDistributed_134 (by decide) (fun h134 => ?_) (fun h134 => ?_)
          · skip
            refine zz_aload_n 151 X.1 4 dL_areDistributed_151 rfl ?_
            refine ll_get 152 X (by decide +kernel) 1 (by decide) (v := .ref (K 0)) rfl (by decide +kernel) rfl dL_areDistributed_152 ?_
            refine zz_bipush 155 X.1 (v := nI 6) dL_areDistributed_155 rfl ?_
            refine zz_bipush 157 X.1 (v := nI 7) dL_areDistributed_157 rfl ?_
            refine ll_callDi 159 X hml hAp (As := [.int (nI 6), .int (nI 7)]) (kt_X6_unite_ok l D C K hAp.1 F hs14 G T 6 7 (by first | rfl | assumption | omega) (by first | rfl | assumption | omega)) gL_areDistributed_X6_unite rfl ⟨rfl, rfl⟩ yd_X6_unite ⟨Nat.le_of_ble_eq_true rfl, Nat.le_of_ble_eq_true rfl⟩ rfl rfl (Nat.le_of_ble_eq_true rfl) ⟨Nat.le_of_ble_eq_true rfl, Nat.le_of_ble_eq_true rfl⟩ dL_areDistributed_159 ?_
            rintro r15 ⟨F15, hs15, G15, T15⟩ hu15
            obtain ⟨rfl, hv15⟩ := hu15
            cases hv15
            refine zz_world (P' := (LPo D C K kL kH (x, (F, (sS hs14 6 (fun i => pJ 124 (hM hs14 6 i) (hM hs14 7 i))), G, T), b))) (fun _ h => h) ?_
            obtain ⟨hs16, eh16⟩ : ∃ h, h = sS hs14 6 (fun i => pJ 124 (hM hs14 6 i) (hM hs14 7 i)) := ⟨_, rfl⟩
            refine zz_world (P' := (LPo D C K kL kH (x, (F, hs16, G, T), b))) (lp_hs eh16.symm) ?_
            have g16_6 : ∀ i, i < 1024 → hM hs16 6 i = (pJ 124 (pJ 38 ((hM hs 0 i)) (hM hs 1 i)) (pJ 38 ((hM hs 0 i)) (hM hs 2 i))) := fun i hi => (by rw [eh16]; exact hM_sS hi : hM hs16 6 i = (fun i => pJ 124 (hM hs14 6 i) (hM hs14 7 i)) i).trans ((fun i hi => cg2 (g14_6 i hi) (g14_7 i hi)) i hi)
            have g16_0 : ∀ i, i < 1024 → hM hs16 0 i = (hM hs 0 i) := fun i hi => (by rw [eh16]; exact hM_sSo (by omega) hi : hM hs16 0 i = hM hs14 0 i).trans (g14_0 i hi)
            have g16_1 : ∀ i, i < 1024 → hM hs16 1 i = (hM hs 1 i) := fun i hi => (by rw [eh16]; exact hM_sSo (by omega) hi : hM hs16 1 i = hM hs14 1 i).trans (g14_1 i hi)
            have g16_2 : ∀ i, i < 1024 → hM hs16 2 i = (hM hs 2 i) := fun i hi => (by rw [eh16]; exact hM_sSo (by omega) hi : hM hs16 2 i = hM hs14 2 i).trans (g14_2 i hi)
            have g16_5 : ∀ i, i < 1024 → hM hs16 5 i = (pJ 38 (pJ 124 ((hM hs 1 i)) (hM hs 2 i)) (hM hs 0 i)) := fun i hi => (by rw [eh16]; exact hM_sSo (by omega) hi : hM hs16 5 i = hM hs14 5 i).trans (g14_5 i hi)
            have g16_7 : ∀ i, i < 1024 → hM hs16 7 i = (pJ 38 ((hM hs 0 i)) (hM hs 2 i)) := fun i hi => (by rw [eh16]; exact hM_sSo (by omega) hi : hM hs16 7 i = hM hs14 7 i).trans (g14_7 i hi)
            have rd16 : RD hs16 b := eh16 ▸ RD_sS rd14 (by omega)
            refine zz_topi (nI (ct (fun i => pJ 124 (pJ 38 ((hM hs 0 i)) (hM hs 1 i)) (pJ 38 ((hM hs 0 i)) (hM hs 2 i))) 1024)) (congrArg nI (ct_cong (fun i hi => cg2 (g14_6 i hi) (g14_7 i hi)))) ?_
            refine zz_istore 162 X.1 (lv' := [(6, .int (nI (ct (fun i => pJ 124 (pJ 38 ((hM hs 0 i)) (hM hs 1 i)) (pJ 38 ((hM hs 0 i)) (hM hs 2 i))) 1024))), (5, .int (nI (ct (fun i => pJ 38 ((hM hs 0 i)) (hM hs 2 i)) 1024))), (4, .int (nI (ct (fun i => pJ 38 ((hM hs 0 i)) (hM hs 1 i)) 1024))), (3, .int (nI (ct (fun i => pJ 38 (pJ 124 ((hM hs 1 i)) (hM hs 2 i)) (hM hs 0 i)) 1024))), (2, .int (nI (ct (fun i => pJ 124 ((hM hs 1 i)) (hM hs 2 i)) 1024))), (0, .ref kL), (1, .int (bI false))]) dL_areDistributed_162 (by decide) rfl ?_
            refine zz_iload_n 164 X.1 4 dL_areDistributed_164 rfl ?_
            refine zz_if_lt 165 203 X.1 (nI_toInt (by omega)) dL_areDistributed_165 (by decide) (fun h165 => ?_) (fun h165 => ?_)
            · exfalso; omega
            · skip
              refine zz_iload 168 X.1 2 dL_areDistributed_168 rfl ?_
              refine zz_iload 170 X.1 1 dL_areDistributed_170 rfl ?_
              refine zz_iadd 172 X.1 (v := (nI ((ct (fun i => pJ 38 ((hM hs 0 i)) (hM hs 1 i)) 1024) + (ct (fun i => pJ 38 ((hM hs 0 i)) (hM hs 2 i)) 1024)))) dL_areDistributed_172 (nI_add _ _) ?_
              refine zz_iload 173 X.1 0 dL_areDistributed_173 rfl ?_
              refine zz_iload_n 175 X.1 3 dL_areDistributed_175 rfl ?_
              refine zz_isub 176 X.1 (v := (nI ((ct (fun i => pJ 124 (pJ 38 ((hM hs 0 i)) (hM hs 1 i)) (pJ 38 ((hM hs 0 i)) (hM hs 2 i))) 1024) - (ct (fun i => pJ 38 (pJ 124 ((hM hs 1 i)) (hM hs 2 i)) (hM hs 0 i)) 1024)))) dL_areDistributed_176 (pk_sub (by omega)) ?_
              refine zz_icmp_lt 177 203 X.1 (nI_toInt (by omega)) (nI_toInt (by omega)) dL_areDistributed_177 (by decide) (fun h177 => ?_) (fun h177 => ?_)
              · exfalso; omega
              · skip
                refine zz_iload_n 180 X.1 3 dL_areDistributed_180 rfl ?_
                refine zz_iload 181 X.1 0 dL_areDistributed_181 rfl ?_
                refine zz_icmp_ne 183 203 X.1 (nI_toInt (by omega)) (nI_toInt (by omega)) dL_areDistributed_183 (by decide) (fun h183 => ?_) (fun h183 => ?_)
                · exfalso; omega
                · skip
                  refine zz_aload_n 186 X.1 5 dL_areDistributed_186 rfl ?_
                  refine ll_get 187 X (by decide +kernel) 1 (by decide) (v := .ref (K 0)) rfl (by decide +kernel) rfl dL_areDistributed_187 ?_
                  refine zz_iconst 190 X.1 (v := nI 5) dL_areDistributed_190 rfl ?_
                  refine zz_bipush 191 X.1 (v := nI 6) dL_areDistributed_191 rfl ?_
                  refine ll_callDi 193 X hml hAp (As := [.int (nI 5), .int (nI 6)]) (kt_X6_areEqual_ok l D C K hAp.1 F hs16 G T 5 6 (by first | rfl | assumption | omega) (by first | rfl | assumption | omega)) gL_areDistributed_X6_areEqual rfl ⟨rfl, rfl⟩ yd_X6_areEqual ⟨Nat.le_of_ble_eq_true rfl, Nat.le_of_ble_eq_true rfl⟩ rfl rfl (Nat.le_of_ble_eq_true rfl) ⟨Nat.le_of_ble_eq_true rfl, Nat.le_of_ble_eq_true rfl⟩ dL_areDistributed_193 ?_
                  rintro r17 ⟨F17, hs17, G17, T17⟩ hu17
                  obtain ⟨rfl, hv17⟩ := hu17
                  cases hv17
                  refine zz_world (P' := (LPo D C K kL kH (x, (F, hs16, G, T), b))) (fun _ h => h) ?_
                  refine zz_ifB_eq 196 203 X.1 dL_areDistributed_196 (by decide) (fun h196 => ?_) (fun h196 => ?_)
                  · exfalso; exact absurd ((eq_t (fun i hi => by rw [g16_5 i hi, g16_6 i hi]; exact hdl i hi)).symm.trans h196) (by decide)
                  · skip
                    refine zz_iconst 199 X.1 (v := nI 1) dL_areDistributed_199 rfl ?_
                    refine zz_goto 200 204 X.1 dL_areDistributed_200 (by decide) ?_
                    refine zz_topi (bI true) rfl ?_
                    rw [← hQ]
                    refine zz_iret 204 X.1 hr (bI_nar _) hlk (x, (F, hs16, G, T), b) ?_ (fun _ h _ => h) dL_areDistributed_204
                    exact ⟨_, rfl, rfl, rd16⟩
          · exact absurd h134 (by decide)
        · exact absurd h105 (by decide)
      · exact absurd h76 (by decide)
    · exact absurd h34 (by decide)
  · exact absurd h8 (by decide)

abbrev rm_L_areCounted : Room := { frames := 11, cells := 0, slots := 0, locals := 205 }
theorem yd_L_areCounted : yL_areCounted.cls = RL ∧ yL_areCounted.cls ≠ "java/lang/invoke/MethodHandle" ∧ yL_areCounted.cls ≠ "java/lang/invoke/VarHandle" ∧ (parseMethodDescriptor yL_areCounted.desc).map (fun d => d.parameters.length) = some 0 := by decide +kernel
set_option maxHeartbeats 4000000 in
set_option maxRecDepth 100000 in
theorem kt_L_areCounted (l : Launch) (D : va_G) (C : Nat → ClassId) (K : Nat → Nat) (kL kH : Nat) (ad : Nat → Nat) (hAp : LAp K kL kH) (x : Int32) (F : Nat → Int32) (hs : Nat → Bool) (G T : Nat → Nat → Int32) (b : Nat → Bool)  (hrd : RD hs b) : LMi l yL_areCounted wsL_areCounted rm_L_areCounted D C K kL kH ad 0 0 [] x F hs G T b (fun (r : Int32) (q : LSt) => ∃ (hs1 : Nat → Bool), r = (bI true) ∧ q = (x, (F, hs1, G, T), b) ∧ RD hs1 b) := by
  refine LMi_of (lv := [(0, .ref kL)]) (cc := cL_areCounted) (maxL := 3) (ret := (some .boolean)) rfl (by decide +kernel) (Nat.le_of_ble_eq_true rfl) rfl ?_
  intro p e s m args below meth c X hLA hml hr hlk
  generalize hQ : MQ below _ args s 0 0 _ = Q
  refine zz_aload_n 0 X.1 0 dL_areCounted_0 rfl ?_
  refine zz_iconst 1 X.1 (v := nI 5) dL_areCounted_1 rfl ?_
  refine zz_iconst 2 X.1 (v := nI 0) dL_areCounted_2 rfl ?_
  refine zz_iconst 3 X.1 (v := nI 0) dL_areCounted_3 rfl ?_
  refine ll_callLv 4 X hLA hml (As := [.int (nI 5), .int (nI 0), .int (bI false)]) (kt_L_copies l D C K kL kH ad hAp x F hs G T b 5 0 false (by first | rfl | assumption | omega) (by first | rfl | assumption | omega)) gL_areCounted_L_copies rfl ⟨rfl, rfl⟩ yd_L_copies ⟨Nat.le_of_ble_eq_true rfl, Nat.le_of_ble_eq_true rfl⟩ rfl rfl (Nat.le_of_ble_eq_true rfl) ⟨Nat.le_of_ble_eq_true rfl, Nat.le_of_ble_eq_true rfl⟩ dL_areCounted_4 ?_
  rintro ⟨x1, ⟨F1, hs1, G1, T1⟩, b1⟩ hu1
  have hv1 := hu1
  cases hv1
  refine zz_world (P' := (LPo D C K kL kH (x, (F, (sS hs 5 (fun i => false ^^ hM hs 0 i)), G, T), b))) (fun _ h => h) ?_
  obtain ⟨hs2, eh2⟩ : ∃ h, h = sS hs 5 (fun i => false ^^ hM hs 0 i) := ⟨_, rfl⟩
  refine zz_world (P' := (LPo D C K kL kH (x, (F, hs2, G, T), b))) (lp_hs eh2.symm) ?_
  have g2_5 : ∀ i, i < 1024 → hM hs2 5 i = ((hM hs 0 i)) := fun i hi => (by rw [eh2]; exact hM_sS hi : hM hs2 5 i = (fun i => false ^^ hM hs 0 i) i).trans ((fun i hi => (Bool.false_xor _).trans ((fun _ _ => rfl) i hi)) i hi)
  have g2_0 : ∀ i, i < 1024 → hM hs2 0 i = (hM hs 0 i) := fun i hi => (by rw [eh2]; exact hM_sSo (by omega) hi : hM hs2 0 i = hM hs 0 i).trans ((fun _ _ => rfl) i hi)
  have g2_1 : ∀ i, i < 1024 → hM hs2 1 i = (hM hs 1 i) := fun i hi => (by rw [eh2]; exact hM_sSo (by omega) hi : hM hs2 1 i = hM hs 1 i).trans ((fun _ _ => rfl) i hi)
  have g2_2 : ∀ i, i < 1024 → hM hs2 2 i = (hM hs 2 i) := fun i hi => (by rw [eh2]; exact hM_sSo (by omega) hi : hM hs2 2 i = hM hs 2 i).trans ((fun _ _ => rfl) i hi)
  have rd2 : RD hs2 b := eh2 ▸ RD_sS hrd (by omega)
  have hA1 := ct_pA3 (hM hs 0) (hM hs 1) 1024
  have hA2 := ct_pJ38 (hM hs 0) (hM hs 1) 1024
  have hA3 := ct_pJ33 (hM hs 0) (hM hs 1) 1024
  have hA4 := ct_le (hM hs 0) 1024
  have hA5 := ct_le (hM hs 1) 1024
  refine zz_aload_n 7 X.1 0 dL_areCounted_7 rfl ?_
  refine ll_get 8 X (by decide +kernel) 1 (by decide) (v := .ref (K 0)) rfl (by decide +kernel) rfl dL_areCounted_8 ?_
  refine zz_iconst 11 X.1 (v := nI 5) dL_areCounted_11 rfl ?_
  refine zz_iconst 12 X.1 (v := nI 1) dL_areCounted_12 rfl ?_
  refine ll_callDi 13 X hml hAp (As := [.int (nI 5), .int (nI 1)]) (kt_X6_intersect_ok l D C K hAp.1 F hs2 G T 5 1 (by first | rfl | assumption | omega) (by first | rfl | assumption | omega)) gL_areCounted_X6_intersect rfl ⟨rfl, rfl⟩ yd_X6_intersect ⟨Nat.le_of_ble_eq_true rfl, Nat.le_of_ble_eq_true rfl⟩ rfl rfl (Nat.le_of_ble_eq_true rfl) ⟨Nat.le_of_ble_eq_true rfl, Nat.le_of_ble_eq_true rfl⟩ dL_areCounted_13 ?_
  rintro r3 ⟨F3, hs3, G3, T3⟩ hu3
  obtain ⟨rfl, hv3⟩ := hu3
  cases hv3
  refine zz_world (P' := (LPo D C K kL kH (x, (F, (sS hs2 5 (fun i => pJ 38 (hM hs2 5 i) (hM hs2 1 i))), G, T), b))) (fun _ h => h) ?_
  obtain ⟨hs4, eh4⟩ : ∃ h, h = sS hs2 5 (fun i => pJ 38 (hM hs2 5 i) (hM hs2 1 i)) := ⟨_, rfl⟩
  refine zz_world (P' := (LPo D C K kL kH (x, (F, hs4, G, T), b))) (lp_hs eh4.symm) ?_
  have g4_5 : ∀ i, i < 1024 → hM hs4 5 i = (pJ 38 ((hM hs 0 i)) (hM hs 1 i)) := fun i hi => (by rw [eh4]; exact hM_sS hi : hM hs4 5 i = (fun i => pJ 38 (hM hs2 5 i) (hM hs2 1 i)) i).trans ((fun i hi => cg2 (g2_5 i hi) (g2_1 i hi)) i hi)
  have g4_0 : ∀ i, i < 1024 → hM hs4 0 i = (hM hs 0 i) := fun i hi => (by rw [eh4]; exact hM_sSo (by omega) hi : hM hs4 0 i = hM hs2 0 i).trans (g2_0 i hi)
  have g4_1 : ∀ i, i < 1024 → hM hs4 1 i = (hM hs 1 i) := fun i hi => (by rw [eh4]; exact hM_sSo (by omega) hi : hM hs4 1 i = hM hs2 1 i).trans (g2_1 i hi)
  have g4_2 : ∀ i, i < 1024 → hM hs4 2 i = (hM hs 2 i) := fun i hi => (by rw [eh4]; exact hM_sSo (by omega) hi : hM hs4 2 i = hM hs2 2 i).trans (g2_2 i hi)
  have rd4 : RD hs4 b := eh4 ▸ RD_sS rd2 (by omega)
  refine zz_topi (nI (ct (fun i => pJ 38 ((hM hs 0 i)) (hM hs 1 i)) 1024)) (congrArg nI (ct_cong (fun i hi => cg2 (g2_5 i hi) (g2_1 i hi)))) ?_
  refine zz_istore_n 16 X.1 (lv' := [(1, .int (nI (ct (fun i => pJ 38 ((hM hs 0 i)) (hM hs 1 i)) 1024))), (0, .ref kL)]) dL_areCounted_16 (by decide) rfl ?_
  refine zz_aload_n 17 X.1 1 dL_areCounted_17 rfl ?_
  refine ll_get 18 X (by decide +kernel) 1 (by decide) (v := .ref (K 0)) rfl (by decide +kernel) rfl dL_areCounted_18 ?_
  refine zz_iconst 21 X.1 (v := nI 5) dL_areCounted_21 rfl ?_
  refine zz_iconst 22 X.1 (v := nI 0) dL_areCounted_22 rfl ?_
  refine ll_callDi 23 X hml hAp (As := [.int (nI 5), .int (nI 0)]) (kt_X6_next_ok l D C K hAp.1 F hs4 G T 5 0 (by first | rfl | assumption | omega) (by first | rfl | assumption | omega)) gL_areCounted_X6_next rfl ⟨rfl, rfl⟩ yd_X6_next ⟨Nat.le_of_ble_eq_true rfl, Nat.le_of_ble_eq_true rfl⟩ rfl rfl (Nat.le_of_ble_eq_true rfl) ⟨Nat.le_of_ble_eq_true rfl, Nat.le_of_ble_eq_true rfl⟩ dL_areCounted_23 ?_
  rintro r5 ⟨F5, hs5, G5, T5⟩ hu5
  obtain ⟨rfl, hv5⟩ := hu5
  cases hv5
  refine zz_world (P' := (LPo D C K kL kH (x, (F, hs4, G, T), b))) (fun _ h => h) ?_
  refine zz_istore_n 26 X.1 (lv' := [(2, .int (nx (hM hs4 5) 0)), (1, .int (nI (ct (fun i => pJ 38 ((hM hs 0 i)) (hM hs 1 i)) 1024))), (0, .ref kL)]) dL_areCounted_26 (by decide) rfl ?_
  refine zz_aload_n 27 X.1 2 dL_areCounted_27 rfl ?_
  refine ll_get 28 X (by decide +kernel) 1 (by decide) (v := .ref (K 0)) rfl (by decide +kernel) rfl dL_areCounted_28 ?_
  refine zz_iconst 31 X.1 (v := nI 0) dL_areCounted_31 rfl ?_
  refine ll_callDi 32 X hml hAp (As := [.int (nI 0)]) (kt_X6_count_ok l D C K hAp.1 F hs4 G T 0 (by first | rfl | assumption | omega)) gL_areCounted_X6_count rfl ⟨rfl, rfl⟩ yd_X6_count ⟨Nat.le_of_ble_eq_true rfl, Nat.le_of_ble_eq_true rfl⟩ rfl rfl (Nat.le_of_ble_eq_true rfl) ⟨Nat.le_of_ble_eq_true rfl, Nat.le_of_ble_eq_true rfl⟩ dL_areCounted_32 ?_
  rintro r6 ⟨F6, hs6, G6, T6⟩ hu6
  obtain ⟨rfl, hv6⟩ := hu6
  cases hv6
  refine zz_world (P' := (LPo D C K kL kH (x, (F, hs4, G, T), b))) (fun _ h => h) ?_
  refine zz_topi (nI (ct (hM hs 0) 1024)) (congrArg nI (ct_cong g4_0)) ?_
  refine zz_aload_n 35 X.1 2 dL_areCounted_35 rfl ?_
  refine ll_get 36 X (by decide +kernel) 1 (by decide) (v := .ref (K 0)) rfl (by decide +kernel) rfl dL_areCounted_36 ?_
  refine zz_iconst 39 X.1 (v := nI 1) dL_areCounted_39 rfl ?_
  refine ll_callDi 40 X hml hAp (As := [.int (nI 1)]) (kt_X6_count_ok l D C K hAp.1 F hs4 G T 1 (by first | rfl | assumption | omega)) gL_areCounted_X6_count rfl ⟨rfl, rfl⟩ yd_X6_count ⟨Nat.le_of_ble_eq_true rfl, Nat.le_of_ble_eq_true rfl⟩ rfl rfl (Nat.le_of_ble_eq_true rfl) ⟨Nat.le_of_ble_eq_true rfl, Nat.le_of_ble_eq_true rfl⟩ dL_areCounted_40 ?_
  rintro r7 ⟨F7, hs7, G7, T7⟩ hu7
  obtain ⟨rfl, hv7⟩ := hu7
  cases hv7
  refine zz_world (P' := (LPo D C K kL kH (x, (F, hs4, G, T), b))) (fun _ h => h) ?_
  refine zz_topi (nI (ct (hM hs 1) 1024)) (congrArg nI (ct_cong g4_1)) ?_
  refine zz_iadd 43 X.1 (v := (nI ((ct (hM hs 0) 1024) + (ct (hM hs 1) 1024)))) dL_areCounted_43 (nI_add _ _) ?_
  refine zz_iload_n 44 X.1 1 dL_areCounted_44 rfl ?_
  refine zz_isub 45 X.1 (v := (nI (((ct (hM hs 0) 1024) + (ct (hM hs 1) 1024)) - (ct (fun i => pJ 38 ((hM hs 0 i)) (hM hs 1 i)) 1024)))) dL_areCounted_45 (pk_sub (by omega)) ?_
  refine zz_aload_n 46 X.1 2 dL_areCounted_46 rfl ?_
  refine ll_get 47 X (by decide +kernel) 1 (by decide) (v := .ref (K 0)) rfl (by decide +kernel) rfl dL_areCounted_47 ?_
  refine zz_iconst 50 X.1 (v := nI 0) dL_areCounted_50 rfl ?_
  refine zz_iconst 51 X.1 (v := nI 1) dL_areCounted_51 rfl ?_
  refine ll_callDi 52 X hml hAp (As := [.int (nI 0), .int (nI 1)]) (kt_X6_unionCount_ok l D C K hAp.1 F hs4 G T 0 1 (by first | rfl | assumption | omega) (by first | rfl | assumption | omega)) gL_areCounted_X6_unionCount rfl ⟨rfl, rfl⟩ yd_X6_unionCount ⟨Nat.le_of_ble_eq_true rfl, Nat.le_of_ble_eq_true rfl⟩ rfl rfl (Nat.le_of_ble_eq_true rfl) ⟨Nat.le_of_ble_eq_true rfl, Nat.le_of_ble_eq_true rfl⟩ dL_areCounted_52 ?_
  rintro r8 ⟨F8, hs8, G8, T8⟩ hu8
  obtain ⟨rfl, hv8⟩ := hu8
  cases hv8
  refine zz_world (P' := (LPo D C K kL kH (x, (F, hs4, G, T), b))) (fun _ h => h) ?_
  refine zz_icmp_ne 55 102 X.1 (nI_toInt (by omega)) (nI_toInt (by omega)) dL_areCounted_55 (by decide) (fun h55 => ?_) (fun h55 => ?_)
  · exfalso; have qa0 := ct_cong (n := 1024) (pA_cong (x := true) (y := false) g4_0 g4_1); have qa1 := ct_cong (n := 1024) (pA_cong (x := false) (y := true) g4_0 g4_1); have qa2 := ct_cong (n := 1024) (pA_cong (x := true) (y := true) g4_0 g4_1); have qa3 := ct_cong (n := 1024) (pA_cong (x := false) (y := false) g4_0 g4_1); omega
  · skip
    refine zz_aload_n 58 X.1 2 dL_areCounted_58 rfl ?_
    refine ll_get 59 X (by decide +kernel) 1 (by decide) (v := .ref (K 0)) rfl (by decide +kernel) rfl dL_areCounted_59 ?_
    refine zz_iconst 62 X.1 (v := nI 0) dL_areCounted_62 rfl ?_
    refine zz_iconst 63 X.1 (v := nI 1) dL_areCounted_63 rfl ?_
    refine ll_callDi 64 X hml hAp (As := [.int (nI 0), .int (nI 1)]) (kt_X6_distance_ok l D C K hAp.1 F hs4 G T 0 1 (by first | rfl | assumption | omega) (by first | rfl | assumption | omega)) gL_areCounted_X6_distance rfl ⟨rfl, rfl⟩ yd_X6_distance ⟨Nat.le_of_ble_eq_true rfl, Nat.le_of_ble_eq_true rfl⟩ rfl rfl (Nat.le_of_ble_eq_true rfl) ⟨Nat.le_of_ble_eq_true rfl, Nat.le_of_ble_eq_true rfl⟩ dL_areCounted_64 ?_
    rintro r9 ⟨F9, hs9, G9, T9⟩ hu9
    obtain ⟨rfl, hv9⟩ := hu9
    cases hv9
    refine zz_world (P' := (LPo D C K kL kH (x, (F, hs4, G, T), b))) (fun _ h => h) ?_
    refine zz_aload_n 67 X.1 2 dL_areCounted_67 rfl ?_
    refine ll_get 68 X (by decide +kernel) 1 (by decide) (v := .ref (K 0)) rfl (by decide +kernel) rfl dL_areCounted_68 ?_
    refine zz_iconst 71 X.1 (v := nI 0) dL_areCounted_71 rfl ?_
    refine zz_iconst 72 X.1 (v := nI 1) dL_areCounted_72 rfl ?_
    refine ll_callDi 73 X hml hAp (As := [.int (nI 0), .int (nI 1)]) (kt_X6_unionCount_ok l D C K hAp.1 F hs4 G T 0 1 (by first | rfl | assumption | omega) (by first | rfl | assumption | omega)) gL_areCounted_X6_unionCount rfl ⟨rfl, rfl⟩ yd_X6_unionCount ⟨Nat.le_of_ble_eq_true rfl, Nat.le_of_ble_eq_true rfl⟩ rfl rfl (Nat.le_of_ble_eq_true rfl) ⟨Nat.le_of_ble_eq_true rfl, Nat.le_of_ble_eq_true rfl⟩ dL_areCounted_73 ?_
    rintro r10 ⟨F10, hs10, G10, T10⟩ hu10
    obtain ⟨rfl, hv10⟩ := hu10
    cases hv10
    refine zz_world (P' := (LPo D C K kL kH (x, (F, hs4, G, T), b))) (fun _ h => h) ?_
    refine zz_iload_n 76 X.1 1 dL_areCounted_76 rfl ?_
    refine zz_isub 77 X.1 (v := (nI ((1024 - ct (pA (hM hs4 0) (hM hs4 1) false false) 1024) - (ct (fun i => pJ 38 ((hM hs 0 i)) (hM hs 1 i)) 1024)))) dL_areCounted_77 (pk_sub (by omega)) ?_
    have hcb11_0 := ct_le (fun i => pJ 38 ((hM hs 0 i)) (hM hs 1 i)) 1024
    have hcb11_1 := ct_le (pA (hM hs4 0) (hM hs4 1) false false) 1024
    have hcb11_2 := ct_le (pA (hM hs4 0) (hM hs4 1) false true) 1024
    have hcb11_3 := ct_le (pA (hM hs4 0) (hM hs4 1) true false) 1024
    refine zz_icmp_ne 78 102 X.1 (nI_toInt (by omega)) (nI_toInt (by omega)) dL_areCounted_78 (by decide) (fun h78 => ?_) (fun h78 => ?_)
    · exfalso; have qa0 := ct_cong (n := 1024) (pA_cong (x := true) (y := false) g4_0 g4_1); have qa1 := ct_cong (n := 1024) (pA_cong (x := false) (y := true) g4_0 g4_1); have qa2 := ct_cong (n := 1024) (pA_cong (x := true) (y := true) g4_0 g4_1); have qa3 := ct_cong (n := 1024) (pA_cong (x := false) (y := false) g4_0 g4_1); omega
    · skip
      have C104 : ZZ p l e rm_L_areCounted s m args below meth c 0 0 Q (zz_A (LZ K kL kH) s.heap.size) (LPo D C K kL kH (x, (F, hs4, G, T), b)) 3 [(2, .int (nx (hM hs4 5) 0)), (1, .int (nI (ct (fun i => pJ 38 ((hM hs 0 i)) (hM hs 1 i)) 1024))), (0, .ref kL)] [] 104 := by
        refine zz_aload_n 104 X.1 2 dL_areCounted_104 rfl ?_
        refine ll_get 105 X (by decide +kernel) 1 (by decide) (v := .ref (K 0)) rfl (by decide +kernel) rfl dL_areCounted_105 ?_
        refine zz_iconst 108 X.1 (v := nI 0) dL_areCounted_108 rfl ?_
        refine zz_iconst 109 X.1 (v := nI 1) dL_areCounted_109 rfl ?_
        refine ll_callDi 110 X hml hAp (As := [.int (nI 0), .int (nI 1)]) (kt_X6_firstCommon_ok l D C K hAp.1 F hs4 G T 0 1 (by first | rfl | assumption | omega) (by first | rfl | assumption | omega)) gL_areCounted_X6_firstCommon rfl ⟨rfl, rfl⟩ yd_X6_firstCommon ⟨Nat.le_of_ble_eq_true rfl, Nat.le_of_ble_eq_true rfl⟩ rfl rfl (Nat.le_of_ble_eq_true rfl) ⟨Nat.le_of_ble_eq_true rfl, Nat.le_of_ble_eq_true rfl⟩ dL_areCounted_110 ?_
        rintro r12 ⟨F12, hs12, G12, T12⟩ hu12
        obtain ⟨rfl, hv12⟩ := hu12
        cases hv12
        refine zz_world (P' := (LPo D C K kL kH (x, (F, hs4, G, T), b))) (fun _ h => h) ?_
        refine zz_iload_n 113 X.1 0 dL_areCounted_113 rfl ?_
        refine zz_icmp_ne 114 170 X.1 rfl rfl dL_areCounted_114 (by decide) (fun h114 => ?_) (fun h114 => ?_)
        · exfalso; exact h114 (congrArg Int32.toInt (nx_cong (fun i hi => by show (hM hs4 0 i && hM hs4 1 i) = _; rw [g4_0 i hi, g4_1 i hi, g4_5 i hi]; cases hM hs 0 i <;> cases hM hs 1 i <;> rfl) 0))
        · skip
          have C172 : ZZ p l e rm_L_areCounted s m args below meth c 0 0 Q (zz_A (LZ K kL kH) s.heap.size) (LPo D C K kL kH (x, (F, hs4, G, T), b)) 3 [(2, .int (nx (hM hs4 5) 0)), (1, .int (nI (ct (fun i => pJ 38 ((hM hs 0 i)) (hM hs 1 i)) 1024))), (0, .ref kL)] [] 172 := by
            refine zz_aload_n 172 X.1 2 dL_areCounted_172 rfl ?_
            refine zz_iconst 173 X.1 (v := nI 5) dL_areCounted_173 rfl ?_
            refine zz_iconst 174 X.1 (v := nI 0) dL_areCounted_174 rfl ?_
            refine zz_iconst 175 X.1 (v := nI 0) dL_areCounted_175 rfl ?_
            refine ll_callLv 176 X hLA hml (As := [.int (nI 5), .int (nI 0), .int (bI false)]) (kt_L_copies l D C K kL kH ad hAp x F hs4 G T b 5 0 false (by first | rfl | assumption | omega) (by first | rfl | assumption | omega)) gL_areCounted_L_copies rfl ⟨rfl, rfl⟩ yd_L_copies ⟨Nat.le_of_ble_eq_true rfl, Nat.le_of_ble_eq_true rfl⟩ rfl rfl (Nat.le_of_ble_eq_true rfl) ⟨Nat.le_of_ble_eq_true rfl, Nat.le_of_ble_eq_true rfl⟩ dL_areCounted_176 ?_
            rintro ⟨x13, ⟨F13, hs13, G13, T13⟩, b13⟩ hu13
            have hv13 := hu13
            cases hv13
            refine zz_world (P' := (LPo D C K kL kH (x, (F, (sS hs4 5 (fun i => false ^^ hM hs4 0 i)), G, T), b))) (fun _ h => h) ?_
            obtain ⟨hs14, eh14⟩ : ∃ h, h = sS hs4 5 (fun i => false ^^ hM hs4 0 i) := ⟨_, rfl⟩
            refine zz_world (P' := (LPo D C K kL kH (x, (F, hs14, G, T), b))) (lp_hs eh14.symm) ?_
            have g14_5 : ∀ i, i < 1024 → hM hs14 5 i = ((hM hs 0 i)) := fun i hi => (by rw [eh14]; exact hM_sS hi : hM hs14 5 i = (fun i => false ^^ hM hs4 0 i) i).trans ((fun i hi => (Bool.false_xor _).trans (g4_0 i hi)) i hi)
            have g14_0 : ∀ i, i < 1024 → hM hs14 0 i = (hM hs 0 i) := fun i hi => (by rw [eh14]; exact hM_sSo (by omega) hi : hM hs14 0 i = hM hs4 0 i).trans (g4_0 i hi)
            have g14_1 : ∀ i, i < 1024 → hM hs14 1 i = (hM hs 1 i) := fun i hi => (by rw [eh14]; exact hM_sSo (by omega) hi : hM hs14 1 i = hM hs4 1 i).trans (g4_1 i hi)
            have g14_2 : ∀ i, i < 1024 → hM hs14 2 i = (hM hs 2 i) := fun i hi => (by rw [eh14]; exact hM_sSo (by omega) hi : hM hs14 2 i = hM hs4 2 i).trans (g4_2 i hi)
            have rd14 : RD hs14 b := eh14 ▸ RD_sS rd4 (by omega)
            refine zz_aload_n 179 X.1 2 dL_areCounted_179 rfl ?_
            refine ll_get 180 X (by decide +kernel) 1 (by decide) (v := .ref (K 0)) rfl (by decide +kernel) rfl dL_areCounted_180 ?_
            refine zz_iconst 183 X.1 (v := nI 5) dL_areCounted_183 rfl ?_
            refine zz_iconst 184 X.1 (v := nI 1) dL_areCounted_184 rfl ?_
            refine ll_callDi 185 X hml hAp (As := [.int (nI 5), .int (nI 1)]) (kt_X6_subtract_ok l D C K hAp.1 F hs14 G T 5 1 (by first | rfl | assumption | omega) (by first | rfl | assumption | omega)) gL_areCounted_X6_subtract rfl ⟨rfl, rfl⟩ yd_X6_subtract ⟨Nat.le_of_ble_eq_true rfl, Nat.le_of_ble_eq_true rfl⟩ rfl rfl (Nat.le_of_ble_eq_true rfl) ⟨Nat.le_of_ble_eq_true rfl, Nat.le_of_ble_eq_true rfl⟩ dL_areCounted_185 ?_
            rintro r15 ⟨F15, hs15, G15, T15⟩ hu15
            obtain ⟨rfl, hv15⟩ := hu15
            cases hv15
            refine zz_world (P' := (LPo D C K kL kH (x, (F, (sS hs14 5 (fun i => pJ 33 (hM hs14 5 i) (hM hs14 1 i))), G, T), b))) (fun _ h => h) ?_
            obtain ⟨hs16, eh16⟩ : ∃ h, h = sS hs14 5 (fun i => pJ 33 (hM hs14 5 i) (hM hs14 1 i)) := ⟨_, rfl⟩
            refine zz_world (P' := (LPo D C K kL kH (x, (F, hs16, G, T), b))) (lp_hs eh16.symm) ?_
            have g16_5 : ∀ i, i < 1024 → hM hs16 5 i = (pJ 33 ((hM hs 0 i)) (hM hs 1 i)) := fun i hi => (by rw [eh16]; exact hM_sS hi : hM hs16 5 i = (fun i => pJ 33 (hM hs14 5 i) (hM hs14 1 i)) i).trans ((fun i hi => cg2 (g14_5 i hi) (g14_1 i hi)) i hi)
            have g16_0 : ∀ i, i < 1024 → hM hs16 0 i = (hM hs 0 i) := fun i hi => (by rw [eh16]; exact hM_sSo (by omega) hi : hM hs16 0 i = hM hs14 0 i).trans (g14_0 i hi)
            have g16_1 : ∀ i, i < 1024 → hM hs16 1 i = (hM hs 1 i) := fun i hi => (by rw [eh16]; exact hM_sSo (by omega) hi : hM hs16 1 i = hM hs14 1 i).trans (g14_1 i hi)
            have g16_2 : ∀ i, i < 1024 → hM hs16 2 i = (hM hs 2 i) := fun i hi => (by rw [eh16]; exact hM_sSo (by omega) hi : hM hs16 2 i = hM hs14 2 i).trans (g14_2 i hi)
            have rd16 : RD hs16 b := eh16 ▸ RD_sS rd14 (by omega)
            refine zz_topi (nI (ct (fun i => pJ 33 ((hM hs 0 i)) (hM hs 1 i)) 1024)) (congrArg nI (ct_cong (fun i hi => cg2 (g14_5 i hi) (g14_1 i hi)))) ?_
            refine zz_aload_n 188 X.1 2 dL_areCounted_188 rfl ?_
            refine ll_get 189 X (by decide +kernel) 1 (by decide) (v := .ref (K 0)) rfl (by decide +kernel) rfl dL_areCounted_189 ?_
            refine zz_iconst 192 X.1 (v := nI 0) dL_areCounted_192 rfl ?_
            refine ll_callDi 193 X hml hAp (As := [.int (nI 0)]) (kt_X6_count_ok l D C K hAp.1 F hs16 G T 0 (by first | rfl | assumption | omega)) gL_areCounted_X6_count rfl ⟨rfl, rfl⟩ yd_X6_count ⟨Nat.le_of_ble_eq_true rfl, Nat.le_of_ble_eq_true rfl⟩ rfl rfl (Nat.le_of_ble_eq_true rfl) ⟨Nat.le_of_ble_eq_true rfl, Nat.le_of_ble_eq_true rfl⟩ dL_areCounted_193 ?_
            rintro r17 ⟨F17, hs17, G17, T17⟩ hu17
            obtain ⟨rfl, hv17⟩ := hu17
            cases hv17
            refine zz_world (P' := (LPo D C K kL kH (x, (F, hs16, G, T), b))) (fun _ h => h) ?_
            refine zz_topi (nI (ct (hM hs 0) 1024)) (congrArg nI (ct_cong g16_0)) ?_
            refine zz_iload_n 196 X.1 1 dL_areCounted_196 rfl ?_
            refine zz_isub 197 X.1 (v := (nI ((ct (hM hs 0) 1024) - (ct (fun i => pJ 38 ((hM hs 0 i)) (hM hs 1 i)) 1024)))) dL_areCounted_197 (pk_sub (by omega)) ?_
            refine zz_icmp_ne 198 223 X.1 (nI_toInt (by omega)) (nI_toInt (by omega)) dL_areCounted_198 (by decide) (fun h198 => ?_) (fun h198 => ?_)
            · exfalso; omega
            · skip
              refine zz_aload_n 201 X.1 2 dL_areCounted_201 rfl ?_
              refine zz_iconst 202 X.1 (v := nI 5) dL_areCounted_202 rfl ?_
              refine zz_bipush 203 X.1 (v := nI 33) dL_areCounted_203 rfl ?_
              refine ll_callLi 205 X hLA hml (As := [.int (nI 5), .int (nI 33)]) (kt_L_isMade l D C K kL kH ad hAp x F hs16 G T b 5 33 (by first | rfl | assumption | omega) (by first | rfl | assumption | omega) (fun i hi => by rw [g16_5 i hi, rd16 i (by omega), rd16 (1024 + i) (by omega)]; first | (show _ = du 33 (_) (_); rw [← show hM hs16 0 i = hs16 i from congrArg hs16 (by omega), ← show hM hs16 1 i = hs16 (1024 + i) from congrArg hs16 (by omega), g16_0 i hi, g16_1 i hi]; simp [pJ, du]; done))) gL_areCounted_L_isMade rfl ⟨rfl, rfl⟩ yd_L_isMade ⟨Nat.le_of_ble_eq_true rfl, Nat.le_of_ble_eq_true rfl⟩ rfl rfl (Nat.le_of_ble_eq_true rfl) ⟨Nat.le_of_ble_eq_true rfl, Nat.le_of_ble_eq_true rfl⟩ dL_areCounted_205 ?_
              rintro r18 ⟨x18, ⟨F18, hs18, G18, T18⟩, b18⟩ hu18
              obtain ⟨rfl, hv18⟩ := hu18
              cases hv18
              refine zz_world (P' := (LPo D C K kL kH (x, (F, hs16, G, T), b))) (fun _ h => h) ?_
              refine zz_ifB_eq 208 223 X.1 dL_areCounted_208 (by decide) (fun h208 => ?_) (fun h208 => ?_)
              · exact absurd h208 (by decide)
              · skip
                refine zz_aload_n 211 X.1 2 dL_areCounted_211 rfl ?_
                refine ll_get 212 X (by decide +kernel) 1 (by decide) (v := .ref (K 0)) rfl (by decide +kernel) rfl dL_areCounted_212 ?_
                refine zz_iconst 215 X.1 (v := nI 5) dL_areCounted_215 rfl ?_
                refine zz_iconst 216 X.1 (v := nI 1) dL_areCounted_216 rfl ?_
                refine ll_callDi 217 X hml hAp (As := [.int (nI 5), .int (nI 1)]) (kt_X6_meet_ok l D C K hAp.1 F hs16 G T 5 1 (by first | rfl | assumption | omega) (by first | rfl | assumption | omega)) gL_areCounted_X6_meet rfl ⟨rfl, rfl⟩ yd_X6_meet ⟨Nat.le_of_ble_eq_true rfl, Nat.le_of_ble_eq_true rfl⟩ rfl rfl (Nat.le_of_ble_eq_true rfl) ⟨Nat.le_of_ble_eq_true rfl, Nat.le_of_ble_eq_true rfl⟩ dL_areCounted_217 ?_
                rintro r19 ⟨F19, hs19, G19, T19⟩ hu19
                obtain ⟨rfl, hv19⟩ := hu19
                cases hv19
                refine zz_world (P' := (LPo D C K kL kH (x, (F, hs16, G, T), b))) (fun _ h => h) ?_
                refine zz_ifB_eq 220 225 X.1 dL_areCounted_220 (by decide) (fun h220 => ?_) (fun h220 => ?_)
                · skip
                  refine zz_aload_n 225 X.1 2 dL_areCounted_225 rfl ?_
                  refine zz_iconst 226 X.1 (v := nI 5) dL_areCounted_226 rfl ?_
                  refine zz_iconst 227 X.1 (v := nI 0) dL_areCounted_227 rfl ?_
                  refine zz_iconst 228 X.1 (v := nI 0) dL_areCounted_228 rfl ?_
                  refine ll_callLv 229 X hLA hml (As := [.int (nI 5), .int (nI 0), .int (bI false)]) (kt_L_copies l D C K kL kH ad hAp x F hs16 G T b 5 0 false (by first | rfl | assumption | omega) (by first | rfl | assumption | omega)) gL_areCounted_L_copies rfl ⟨rfl, rfl⟩ yd_L_copies ⟨Nat.le_of_ble_eq_true rfl, Nat.le_of_ble_eq_true rfl⟩ rfl rfl (Nat.le_of_ble_eq_true rfl) ⟨Nat.le_of_ble_eq_true rfl, Nat.le_of_ble_eq_true rfl⟩ dL_areCounted_229 ?_
                  rintro ⟨x20, ⟨F20, hs20, G20, T20⟩, b20⟩ hu20
                  have hv20 := hu20
                  cases hv20
                  refine zz_world (P' := (LPo D C K kL kH (x, (F, (sS hs16 5 (fun i => false ^^ hM hs16 0 i)), G, T), b))) (fun _ h => h) ?_
                  obtain ⟨hs21, eh21⟩ : ∃ h, h = sS hs16 5 (fun i => false ^^ hM hs16 0 i) := ⟨_, rfl⟩
                  refine zz_world (P' := (LPo D C K kL kH (x, (F, hs21, G, T), b))) (lp_hs eh21.symm) ?_
                  have g21_5 : ∀ i, i < 1024 → hM hs21 5 i = ((hM hs 0 i)) := fun i hi => (by rw [eh21]; exact hM_sS hi : hM hs21 5 i = (fun i => false ^^ hM hs16 0 i) i).trans ((fun i hi => (Bool.false_xor _).trans (g16_0 i hi)) i hi)
                  have g21_0 : ∀ i, i < 1024 → hM hs21 0 i = (hM hs 0 i) := fun i hi => (by rw [eh21]; exact hM_sSo (by omega) hi : hM hs21 0 i = hM hs16 0 i).trans (g16_0 i hi)
                  have g21_1 : ∀ i, i < 1024 → hM hs21 1 i = (hM hs 1 i) := fun i hi => (by rw [eh21]; exact hM_sSo (by omega) hi : hM hs21 1 i = hM hs16 1 i).trans (g16_1 i hi)
                  have g21_2 : ∀ i, i < 1024 → hM hs21 2 i = (hM hs 2 i) := fun i hi => (by rw [eh21]; exact hM_sSo (by omega) hi : hM hs21 2 i = hM hs16 2 i).trans (g16_2 i hi)
                  have rd21 : RD hs21 b := eh21 ▸ RD_sS rd16 (by omega)
                  refine zz_aload_n 232 X.1 2 dL_areCounted_232 rfl ?_
                  refine ll_get 233 X (by decide +kernel) 1 (by decide) (v := .ref (K 0)) rfl (by decide +kernel) rfl dL_areCounted_233 ?_
                  refine zz_iconst 236 X.1 (v := nI 5) dL_areCounted_236 rfl ?_
                  refine zz_iconst 237 X.1 (v := nI 1) dL_areCounted_237 rfl ?_
                  refine ll_callDi 238 X hml hAp (As := [.int (nI 5), .int (nI 1)]) (kt_X6_differ_ok l D C K hAp.1 F hs21 G T 5 1 (by first | rfl | assumption | omega) (by first | rfl | assumption | omega)) gL_areCounted_X6_differ rfl ⟨rfl, rfl⟩ yd_X6_differ ⟨Nat.le_of_ble_eq_true rfl, Nat.le_of_ble_eq_true rfl⟩ rfl rfl (Nat.le_of_ble_eq_true rfl) ⟨Nat.le_of_ble_eq_true rfl, Nat.le_of_ble_eq_true rfl⟩ dL_areCounted_238 ?_
                  rintro r22 ⟨F22, hs22, G22, T22⟩ hu22
                  obtain ⟨rfl, hv22⟩ := hu22
                  cases hv22
                  refine zz_world (P' := (LPo D C K kL kH (x, (F, (sS hs21 5 (fun i => pJ 126 (hM hs21 5 i) (hM hs21 1 i))), G, T), b))) (fun _ h => h) ?_
                  obtain ⟨hs23, eh23⟩ : ∃ h, h = sS hs21 5 (fun i => pJ 126 (hM hs21 5 i) (hM hs21 1 i)) := ⟨_, rfl⟩
                  refine zz_world (P' := (LPo D C K kL kH (x, (F, hs23, G, T), b))) (lp_hs eh23.symm) ?_
                  have g23_5 : ∀ i, i < 1024 → hM hs23 5 i = (pJ 126 ((hM hs 0 i)) (hM hs 1 i)) := fun i hi => (by rw [eh23]; exact hM_sS hi : hM hs23 5 i = (fun i => pJ 126 (hM hs21 5 i) (hM hs21 1 i)) i).trans ((fun i hi => cg2 (g21_5 i hi) (g21_1 i hi)) i hi)
                  have g23_0 : ∀ i, i < 1024 → hM hs23 0 i = (hM hs 0 i) := fun i hi => (by rw [eh23]; exact hM_sSo (by omega) hi : hM hs23 0 i = hM hs21 0 i).trans (g21_0 i hi)
                  have g23_1 : ∀ i, i < 1024 → hM hs23 1 i = (hM hs 1 i) := fun i hi => (by rw [eh23]; exact hM_sSo (by omega) hi : hM hs23 1 i = hM hs21 1 i).trans (g21_1 i hi)
                  have g23_2 : ∀ i, i < 1024 → hM hs23 2 i = (hM hs 2 i) := fun i hi => (by rw [eh23]; exact hM_sSo (by omega) hi : hM hs23 2 i = hM hs21 2 i).trans (g21_2 i hi)
                  have rd23 : RD hs23 b := eh23 ▸ RD_sS rd21 (by omega)
                  refine zz_topi (nI (ct (fun i => pJ 126 ((hM hs 0 i)) (hM hs 1 i)) 1024)) (congrArg nI (ct_cong (fun i hi => cg2 (g21_5 i hi) (g21_1 i hi)))) ?_
                  refine zz_aload_n 241 X.1 2 dL_areCounted_241 rfl ?_
                  refine ll_get 242 X (by decide +kernel) 1 (by decide) (v := .ref (K 0)) rfl (by decide +kernel) rfl dL_areCounted_242 ?_
                  refine zz_iconst 245 X.1 (v := nI 0) dL_areCounted_245 rfl ?_
                  refine zz_iconst 246 X.1 (v := nI 1) dL_areCounted_246 rfl ?_
                  refine ll_callDi 247 X hml hAp (As := [.int (nI 0), .int (nI 1)]) (kt_X6_distance_ok l D C K hAp.1 F hs23 G T 0 1 (by first | rfl | assumption | omega) (by first | rfl | assumption | omega)) gL_areCounted_X6_distance rfl ⟨rfl, rfl⟩ yd_X6_distance ⟨Nat.le_of_ble_eq_true rfl, Nat.le_of_ble_eq_true rfl⟩ rfl rfl (Nat.le_of_ble_eq_true rfl) ⟨Nat.le_of_ble_eq_true rfl, Nat.le_of_ble_eq_true rfl⟩ dL_areCounted_247 ?_
                  rintro r24 ⟨F24, hs24, G24, T24⟩ hu24
                  obtain ⟨rfl, hv24⟩ := hu24
                  cases hv24
                  refine zz_world (P' := (LPo D C K kL kH (x, (F, hs23, G, T), b))) (fun _ h => h) ?_
                  have hcb25_0 := ct_le (fun i => pJ 126 ((hM hs 0 i)) (hM hs 1 i)) 1024
                  have hcb25_1 := ct_le (pA (hM hs23 0) (hM hs23 1) false true) 1024
                  have hcb25_2 := ct_le (pA (hM hs23 0) (hM hs23 1) true false) 1024
                  refine zz_icmp_ne 250 263 X.1 (nI_toInt (by omega)) (nI_toInt (by omega)) dL_areCounted_250 (by decide) (fun h250 => ?_) (fun h250 => ?_)
                  · exfalso; have qa0 := ct_cong (n := 1024) (pA_cong (x := true) (y := false) g23_0 g23_1); have qa1 := ct_cong (n := 1024) (pA_cong (x := false) (y := true) g23_0 g23_1); have qa2 := ct_cong (n := 1024) (pA_cong (x := true) (y := true) g23_0 g23_1); have qa3 := ct_cong (n := 1024) (pA_cong (x := false) (y := false) g23_0 g23_1); omega
                  · skip
                    refine zz_aload_n 253 X.1 2 dL_areCounted_253 rfl ?_
                    refine zz_iconst 254 X.1 (v := nI 5) dL_areCounted_254 rfl ?_
                    refine zz_bipush 255 X.1 (v := nI 126) dL_areCounted_255 rfl ?_
                    refine ll_callLi 257 X hLA hml (As := [.int (nI 5), .int (nI 126)]) (kt_L_isMade l D C K kL kH ad hAp x F hs23 G T b 5 126 (by first | rfl | assumption | omega) (by first | rfl | assumption | omega) (fun i hi => by rw [g23_5 i hi, rd23 i (by omega), rd23 (1024 + i) (by omega)]; first | (show _ = du 126 (_) (_); rw [← show hM hs23 0 i = hs23 i from congrArg hs23 (by omega), ← show hM hs23 1 i = hs23 (1024 + i) from congrArg hs23 (by omega), g23_0 i hi, g23_1 i hi]; simp [pJ, du]; done))) gL_areCounted_L_isMade rfl ⟨rfl, rfl⟩ yd_L_isMade ⟨Nat.le_of_ble_eq_true rfl, Nat.le_of_ble_eq_true rfl⟩ rfl rfl (Nat.le_of_ble_eq_true rfl) ⟨Nat.le_of_ble_eq_true rfl, Nat.le_of_ble_eq_true rfl⟩ dL_areCounted_257 ?_
                    rintro r26 ⟨x26, ⟨F26, hs26, G26, T26⟩, b26⟩ hu26
                    obtain ⟨rfl, hv26⟩ := hu26
                    cases hv26
                    refine zz_world (P' := (LPo D C K kL kH (x, (F, hs23, G, T), b))) (fun _ h => h) ?_
                    refine zz_ifB_ne 260 265 X.1 dL_areCounted_260 (by decide) (fun h260 => ?_) (fun h260 => ?_)
                    · skip
                      refine zz_aload_n 265 X.1 2 dL_areCounted_265 rfl ?_
                      refine ll_get 266 X (by decide +kernel) 1 (by decide) (v := .ref (K 0)) rfl (by decide +kernel) rfl dL_areCounted_266 ?_
                      refine zz_iconst 269 X.1 (v := nI 5) dL_areCounted_269 rfl ?_
                      refine zz_iconst 270 X.1 (v := nI 1) dL_areCounted_270 rfl ?_
                      refine ll_callDi 271 X hml hAp (As := [.int (nI 5), .int (nI 1)]) (kt_X6_differ_ok l D C K hAp.1 F hs23 G T 5 1 (by first | rfl | assumption | omega) (by first | rfl | assumption | omega)) gL_areCounted_X6_differ rfl ⟨rfl, rfl⟩ yd_X6_differ ⟨Nat.le_of_ble_eq_true rfl, Nat.le_of_ble_eq_true rfl⟩ rfl rfl (Nat.le_of_ble_eq_true rfl) ⟨Nat.le_of_ble_eq_true rfl, Nat.le_of_ble_eq_true rfl⟩ dL_areCounted_271 ?_
                      rintro r27 ⟨F27, hs27, G27, T27⟩ hu27
                      obtain ⟨rfl, hv27⟩ := hu27
                      cases hv27
                      refine zz_world (P' := (LPo D C K kL kH (x, (F, (sS hs23 5 (fun i => pJ 126 (hM hs23 5 i) (hM hs23 1 i))), G, T), b))) (fun _ h => h) ?_
                      obtain ⟨hs28, eh28⟩ : ∃ h, h = sS hs23 5 (fun i => pJ 126 (hM hs23 5 i) (hM hs23 1 i)) := ⟨_, rfl⟩
                      refine zz_world (P' := (LPo D C K kL kH (x, (F, hs28, G, T), b))) (lp_hs eh28.symm) ?_
                      have g28_5 : ∀ i, i < 1024 → hM hs28 5 i = (pJ 126 (pJ 126 ((hM hs 0 i)) (hM hs 1 i)) (hM hs 1 i)) := fun i hi => (by rw [eh28]; exact hM_sS hi : hM hs28 5 i = (fun i => pJ 126 (hM hs23 5 i) (hM hs23 1 i)) i).trans ((fun i hi => cg2 (g23_5 i hi) (g23_1 i hi)) i hi)
                      have g28_0 : ∀ i, i < 1024 → hM hs28 0 i = (hM hs 0 i) := fun i hi => (by rw [eh28]; exact hM_sSo (by omega) hi : hM hs28 0 i = hM hs23 0 i).trans (g23_0 i hi)
                      have g28_1 : ∀ i, i < 1024 → hM hs28 1 i = (hM hs 1 i) := fun i hi => (by rw [eh28]; exact hM_sSo (by omega) hi : hM hs28 1 i = hM hs23 1 i).trans (g23_1 i hi)
                      have g28_2 : ∀ i, i < 1024 → hM hs28 2 i = (hM hs 2 i) := fun i hi => (by rw [eh28]; exact hM_sSo (by omega) hi : hM hs28 2 i = hM hs23 2 i).trans (g23_2 i hi)
                      have rd28 : RD hs28 b := eh28 ▸ RD_sS rd23 (by omega)
                      refine zz_topi (nI (ct (fun i => pJ 126 (pJ 126 ((hM hs 0 i)) (hM hs 1 i)) (hM hs 1 i)) 1024)) (congrArg nI (ct_cong (fun i hi => cg2 (g23_5 i hi) (g23_1 i hi)))) ?_
                      refine zz_aload_n 274 X.1 2 dL_areCounted_274 rfl ?_
                      refine ll_get 275 X (by decide +kernel) 1 (by decide) (v := .ref (K 0)) rfl (by decide +kernel) rfl dL_areCounted_275 ?_
                      refine zz_iconst 278 X.1 (v := nI 0) dL_areCounted_278 rfl ?_
                      refine ll_callDi 279 X hml hAp (As := [.int (nI 0)]) (kt_X6_count_ok l D C K hAp.1 F hs28 G T 0 (by first | rfl | assumption | omega)) gL_areCounted_X6_count rfl ⟨rfl, rfl⟩ yd_X6_count ⟨Nat.le_of_ble_eq_true rfl, Nat.le_of_ble_eq_true rfl⟩ rfl rfl (Nat.le_of_ble_eq_true rfl) ⟨Nat.le_of_ble_eq_true rfl, Nat.le_of_ble_eq_true rfl⟩ dL_areCounted_279 ?_
                      rintro r29 ⟨F29, hs29, G29, T29⟩ hu29
                      obtain ⟨rfl, hv29⟩ := hu29
                      cases hv29
                      refine zz_world (P' := (LPo D C K kL kH (x, (F, hs28, G, T), b))) (fun _ h => h) ?_
                      refine zz_topi (nI (ct (hM hs 0) 1024)) (congrArg nI (ct_cong g28_0)) ?_
                      have hcb30_0 := ct_le (fun i => pJ 126 (pJ 126 ((hM hs 0 i)) (hM hs 1 i)) (hM hs 1 i)) 1024
                      have hcb30_1 := ct_le (hM hs 0) 1024
                      refine zz_icmp_ne 282 311 X.1 (nI_toInt (by omega)) (nI_toInt (by omega)) dL_areCounted_282 (by decide) (fun h282 => ?_) (fun h282 => ?_)
                      · exfalso; have q9 : ct (fun i => pJ 126 (pJ 126 (hM hs 0 i) (hM hs 1 i)) (hM hs 1 i)) 1024 = ct (hM hs 0) 1024 := ct_cong (fun i hi => by cases hM hs 0 i <;> cases hM hs 1 i <;> rfl); omega
                      · skip
                        refine zz_aload_n 285 X.1 2 dL_areCounted_285 rfl ?_
                        refine ll_get 286 X (by decide +kernel) 1 (by decide) (v := .ref (K 0)) rfl (by decide +kernel) rfl dL_areCounted_286 ?_
                        refine zz_iconst 289 X.1 (v := nI 5) dL_areCounted_289 rfl ?_
                        refine zz_iconst 290 X.1 (v := nI 0) dL_areCounted_290 rfl ?_
                        refine ll_callDi 291 X hml hAp (As := [.int (nI 5), .int (nI 0)]) (kt_X6_areEqual_ok l D C K hAp.1 F hs28 G T 5 0 (by first | rfl | assumption | omega) (by first | rfl | assumption | omega)) gL_areCounted_X6_areEqual rfl ⟨rfl, rfl⟩ yd_X6_areEqual ⟨Nat.le_of_ble_eq_true rfl, Nat.le_of_ble_eq_true rfl⟩ rfl rfl (Nat.le_of_ble_eq_true rfl) ⟨Nat.le_of_ble_eq_true rfl, Nat.le_of_ble_eq_true rfl⟩ dL_areCounted_291 ?_
                        rintro r31 ⟨F31, hs31, G31, T31⟩ hu31
                        obtain ⟨rfl, hv31⟩ := hu31
                        cases hv31
                        refine zz_world (P' := (LPo D C K kL kH (x, (F, hs28, G, T), b))) (fun _ h => h) ?_
                        refine zz_ifB_eq 294 311 X.1 dL_areCounted_294 (by decide) (fun h294 => ?_) (fun h294 => ?_)
                        · exfalso; exact absurd ((eq_t (fun i hi => by rw [g28_5 i hi, g28_0 i hi]; cases hM hs 0 i <;> cases hM hs 1 i <;> rfl)).symm.trans h294) (by decide)
                        · skip
                          refine zz_aload_n 297 X.1 2 dL_areCounted_297 rfl ?_
                          refine ll_get 298 X (by decide +kernel) 1 (by decide) (v := .ref (K 0)) rfl (by decide +kernel) rfl dL_areCounted_298 ?_
                          refine ll_callDi 301 X hml hAp (As := []) (kt_X6_errors_ok l D C K hAp.1 F hs28 G T ) gL_areCounted_X6_errors rfl ⟨rfl, rfl⟩ yd_X6_errors ⟨Nat.le_of_ble_eq_true rfl, Nat.le_of_ble_eq_true rfl⟩ rfl rfl (Nat.le_of_ble_eq_true rfl) ⟨Nat.le_of_ble_eq_true rfl, Nat.le_of_ble_eq_true rfl⟩ dL_areCounted_301 ?_
                          rintro r32 ⟨F32, hs32, G32, T32⟩ hu32
                          obtain ⟨rfl, hv32⟩ := hu32
                          cases hv32
                          refine zz_world (P' := (LPo D C K kL kH (x, (F, hs28, G, T), b))) (fun _ h => h) ?_
                          refine zz_if_ne 304 311 X.1 (nI_toInt (by omega)) dL_areCounted_304 (by decide) (fun h304 => ?_) (fun h304 => ?_)
                          · exfalso; omega
                          · skip
                            refine zz_iconst 307 X.1 (v := nI 1) dL_areCounted_307 rfl ?_
                            refine zz_goto 308 312 X.1 dL_areCounted_308 (by decide) ?_
                            refine zz_topi (bI true) rfl ?_
                            rw [← hQ]
                            refine zz_iret 312 X.1 hr (bI_nar _) hlk (x, (F, hs28, G, T), b) ?_ (fun _ h _ => h) dL_areCounted_312
                            exact ⟨_, rfl, rfl, rd28⟩
                    · exact absurd h260 (by decide)
                · exfalso; exact absurd ((meet_f (fun i hi => by rw [g16_5 i hi, g16_1 i hi]; cases hM hs 0 i <;> cases hM hs 1 i <;> decide)).symm.trans h220) (by decide)
          refine zz_aload_n 117 X.1 2 dL_areCounted_117 rfl ?_
          refine ll_get 118 X (by decide +kernel) 1 (by decide) (v := .ref (K 0)) rfl (by decide +kernel) rfl dL_areCounted_118 ?_
          refine zz_iconst 121 X.1 (v := nI 0) dL_areCounted_121 rfl ?_
          refine zz_iconst 122 X.1 (v := nI 1) dL_areCounted_122 rfl ?_
          refine ll_callDi 123 X hml hAp (As := [.int (nI 0), .int (nI 1)]) (kt_X6_isWithin_ok l D C K hAp.1 F hs4 G T 0 1 (by first | rfl | assumption | omega) (by first | rfl | assumption | omega)) gL_areCounted_X6_isWithin rfl ⟨rfl, rfl⟩ yd_X6_isWithin ⟨Nat.le_of_ble_eq_true rfl, Nat.le_of_ble_eq_true rfl⟩ rfl rfl (Nat.le_of_ble_eq_true rfl) ⟨Nat.le_of_ble_eq_true rfl, Nat.le_of_ble_eq_true rfl⟩ dL_areCounted_123 ?_
          rintro r33 ⟨F33, hs33, G33, T33⟩ hu33
          obtain ⟨rfl, hv33⟩ := hu33
          cases hv33
          refine zz_world (P' := (LPo D C K kL kH (x, (F, hs4, G, T), b))) (fun _ h => h) ?_
          refine zz_iload_n 126 X.1 1 dL_areCounted_126 rfl ?_
          refine zz_aload_n 127 X.1 2 dL_areCounted_127 rfl ?_
          refine ll_get 128 X (by decide +kernel) 1 (by decide) (v := .ref (K 0)) rfl (by decide +kernel) rfl dL_areCounted_128 ?_
          refine zz_iconst 131 X.1 (v := nI 0) dL_areCounted_131 rfl ?_
          refine ll_callDi 132 X hml hAp (As := [.int (nI 0)]) (kt_X6_count_ok l D C K hAp.1 F hs4 G T 0 (by first | rfl | assumption | omega)) gL_areCounted_X6_count rfl ⟨rfl, rfl⟩ yd_X6_count ⟨Nat.le_of_ble_eq_true rfl, Nat.le_of_ble_eq_true rfl⟩ rfl rfl (Nat.le_of_ble_eq_true rfl) ⟨Nat.le_of_ble_eq_true rfl, Nat.le_of_ble_eq_true rfl⟩ dL_areCounted_132 ?_
          rintro r34 ⟨F34, hs34, G34, T34⟩ hu34
          obtain ⟨rfl, hv34⟩ := hu34
          cases hv34
          refine zz_world (P' := (LPo D C K kL kH (x, (F, hs4, G, T), b))) (fun _ h => h) ?_
          refine zz_topi (nI (ct (hM hs 0) 1024)) (congrArg nI (ct_cong g4_0)) ?_
          refine zz_icmp_ne 135 142 X.1 (nI_toInt (by omega)) (nI_toInt (by omega)) dL_areCounted_135 (by decide) (fun h135 => ?_) (fun h135 => ?_)
          · skip
            refine zz_iconst 142 X.1 (v := nI 0) dL_areCounted_142 rfl ?_
            refine zz_topi (bI false) rfl ?_
            refine zz_icmpB_ne 143 170 X.1 dL_areCounted_143 (by decide) (fun h143 => ?_) (fun h143 => ?_)
            · exfalso; have qa0 := ct_cong (n := 1024) (pA_cong (x := true) (y := false) g4_0 g4_1); have qa1 := ct_cong (n := 1024) (pA_cong (x := false) (y := true) g4_0 g4_1); have qa2 := ct_cong (n := 1024) (pA_cong (x := true) (y := true) g4_0 g4_1); have qa3 := ct_cong (n := 1024) (pA_cong (x := false) (y := false) g4_0 g4_1); first | exact h143 (decide_eq_true (by omega)) | exact h143 (decide_eq_false (by omega))
            · skip
              refine zz_aload_n 146 X.1 2 dL_areCounted_146 rfl ?_
              refine ll_get 147 X (by decide +kernel) 1 (by decide) (v := .ref (K 0)) rfl (by decide +kernel) rfl dL_areCounted_147 ?_
              refine zz_iconst 150 X.1 (v := nI 5) dL_areCounted_150 rfl ?_
              refine zz_iconst 151 X.1 (v := nI 0) dL_areCounted_151 rfl ?_
              refine ll_callDi 152 X hml hAp (As := [.int (nI 5), .int (nI 0)]) (kt_X6_isWithin_ok l D C K hAp.1 F hs4 G T 5 0 (by first | rfl | assumption | omega) (by first | rfl | assumption | omega)) gL_areCounted_X6_isWithin rfl ⟨rfl, rfl⟩ yd_X6_isWithin ⟨Nat.le_of_ble_eq_true rfl, Nat.le_of_ble_eq_true rfl⟩ rfl rfl (Nat.le_of_ble_eq_true rfl) ⟨Nat.le_of_ble_eq_true rfl, Nat.le_of_ble_eq_true rfl⟩ dL_areCounted_152 ?_
              rintro r35 ⟨F35, hs35, G35, T35⟩ hu35
              obtain ⟨rfl, hv35⟩ := hu35
              cases hv35
              refine zz_world (P' := (LPo D C K kL kH (x, (F, hs4, G, T), b))) (fun _ h => h) ?_
              refine zz_ifB_eq 155 170 X.1 dL_areCounted_155 (by decide) (fun h155 => ?_) (fun h155 => ?_)
              · exfalso; exact absurd ((within_t (fun i hi => by rw [g4_5 i hi, g4_0 i hi]; cases hM hs 0 i <;> cases hM hs 1 i <;> decide)).symm.trans h155) (by decide)
              · skip
                refine zz_aload_n 158 X.1 2 dL_areCounted_158 rfl ?_
                refine ll_get 159 X (by decide +kernel) 1 (by decide) (v := .ref (K 0)) rfl (by decide +kernel) rfl dL_areCounted_159 ?_
                refine zz_iconst 162 X.1 (v := nI 5) dL_areCounted_162 rfl ?_
                refine zz_iconst 163 X.1 (v := nI 1) dL_areCounted_163 rfl ?_
                refine ll_callDi 164 X hml hAp (As := [.int (nI 5), .int (nI 1)]) (kt_X6_isWithin_ok l D C K hAp.1 F hs4 G T 5 1 (by first | rfl | assumption | omega) (by first | rfl | assumption | omega)) gL_areCounted_X6_isWithin rfl ⟨rfl, rfl⟩ yd_X6_isWithin ⟨Nat.le_of_ble_eq_true rfl, Nat.le_of_ble_eq_true rfl⟩ rfl rfl (Nat.le_of_ble_eq_true rfl) ⟨Nat.le_of_ble_eq_true rfl, Nat.le_of_ble_eq_true rfl⟩ dL_areCounted_164 ?_
                rintro r36 ⟨F36, hs36, G36, T36⟩ hu36
                obtain ⟨rfl, hv36⟩ := hu36
                cases hv36
                refine zz_world (P' := (LPo D C K kL kH (x, (F, hs4, G, T), b))) (fun _ h => h) ?_
                refine zz_ifB_ne 167 172 X.1 dL_areCounted_167 (by decide) (fun h167 => ?_) (fun h167 => ?_)
                · skip
                  refine zz_lvs [0, 1, 2] rfl ?_
                  exact C172  
                · exfalso; exact absurd ((within_t (fun i hi => by rw [g4_5 i hi, g4_1 i hi]; cases hM hs 0 i <;> cases hM hs 1 i <;> decide)).symm.trans h167) (by decide)
          · skip
            refine zz_iconst 138 X.1 (v := nI 1) dL_areCounted_138 rfl ?_
            refine zz_goto 139 143 X.1 dL_areCounted_139 (by decide) ?_
            refine zz_topi (bI true) rfl ?_
            refine zz_icmpB_ne 143 170 X.1 dL_areCounted_143 (by decide) (fun h143 => ?_) (fun h143 => ?_)
            · exfalso; have qa0 := ct_cong (n := 1024) (pA_cong (x := true) (y := false) g4_0 g4_1); have qa1 := ct_cong (n := 1024) (pA_cong (x := false) (y := true) g4_0 g4_1); have qa2 := ct_cong (n := 1024) (pA_cong (x := true) (y := true) g4_0 g4_1); have qa3 := ct_cong (n := 1024) (pA_cong (x := false) (y := false) g4_0 g4_1); first | exact h143 (decide_eq_true (by omega)) | exact h143 (decide_eq_false (by omega))
            · skip
              refine zz_aload_n 146 X.1 2 dL_areCounted_146 rfl ?_
              refine ll_get 147 X (by decide +kernel) 1 (by decide) (v := .ref (K 0)) rfl (by decide +kernel) rfl dL_areCounted_147 ?_
              refine zz_iconst 150 X.1 (v := nI 5) dL_areCounted_150 rfl ?_
              refine zz_iconst 151 X.1 (v := nI 0) dL_areCounted_151 rfl ?_
              refine ll_callDi 152 X hml hAp (As := [.int (nI 5), .int (nI 0)]) (kt_X6_isWithin_ok l D C K hAp.1 F hs4 G T 5 0 (by first | rfl | assumption | omega) (by first | rfl | assumption | omega)) gL_areCounted_X6_isWithin rfl ⟨rfl, rfl⟩ yd_X6_isWithin ⟨Nat.le_of_ble_eq_true rfl, Nat.le_of_ble_eq_true rfl⟩ rfl rfl (Nat.le_of_ble_eq_true rfl) ⟨Nat.le_of_ble_eq_true rfl, Nat.le_of_ble_eq_true rfl⟩ dL_areCounted_152 ?_
              rintro r37 ⟨F37, hs37, G37, T37⟩ hu37
              obtain ⟨rfl, hv37⟩ := hu37
              cases hv37
              refine zz_world (P' := (LPo D C K kL kH (x, (F, hs4, G, T), b))) (fun _ h => h) ?_
              refine zz_ifB_eq 155 170 X.1 dL_areCounted_155 (by decide) (fun h155 => ?_) (fun h155 => ?_)
              · exfalso; exact absurd ((within_t (fun i hi => by rw [g4_5 i hi, g4_0 i hi]; cases hM hs 0 i <;> cases hM hs 1 i <;> decide)).symm.trans h155) (by decide)
              · skip
                refine zz_aload_n 158 X.1 2 dL_areCounted_158 rfl ?_
                refine ll_get 159 X (by decide +kernel) 1 (by decide) (v := .ref (K 0)) rfl (by decide +kernel) rfl dL_areCounted_159 ?_
                refine zz_iconst 162 X.1 (v := nI 5) dL_areCounted_162 rfl ?_
                refine zz_iconst 163 X.1 (v := nI 1) dL_areCounted_163 rfl ?_
                refine ll_callDi 164 X hml hAp (As := [.int (nI 5), .int (nI 1)]) (kt_X6_isWithin_ok l D C K hAp.1 F hs4 G T 5 1 (by first | rfl | assumption | omega) (by first | rfl | assumption | omega)) gL_areCounted_X6_isWithin rfl ⟨rfl, rfl⟩ yd_X6_isWithin ⟨Nat.le_of_ble_eq_true rfl, Nat.le_of_ble_eq_true rfl⟩ rfl rfl (Nat.le_of_ble_eq_true rfl) ⟨Nat.le_of_ble_eq_true rfl, Nat.le_of_ble_eq_true rfl⟩ dL_areCounted_164 ?_
                rintro r38 ⟨F38, hs38, G38, T38⟩ hu38
                obtain ⟨rfl, hv38⟩ := hu38
                cases hv38
                refine zz_world (P' := (LPo D C K kL kH (x, (F, hs4, G, T), b))) (fun _ h => h) ?_
                refine zz_ifB_ne 167 172 X.1 dL_areCounted_167 (by decide) (fun h167 => ?_) (fun h167 => ?_)
                · skip
                  refine zz_lvs [0, 1, 2] rfl ?_
                  exact C172  
                · exfalso; exact absurd ((within_t (fun i hi => by rw [g4_5 i hi, g4_1 i hi]; cases hM hs 0 i <;> cases hM hs 1 i <;> decide)).symm.trans h167) (by decide)
      refine zz_aload_n 81 X.1 2 dL_areCounted_81 rfl ?_
      refine ll_get 82 X (by decide +kernel) 1 (by decide) (v := .ref (K 0)) rfl (by decide +kernel) rfl dL_areCounted_82 ?_
      refine zz_iconst 85 X.1 (v := nI 0) dL_areCounted_85 rfl ?_
      refine zz_iconst 86 X.1 (v := nI 1) dL_areCounted_86 rfl ?_
      refine ll_callDi 87 X hml hAp (As := [.int (nI 0), .int (nI 1)]) (kt_X6_meet_ok l D C K hAp.1 F hs4 G T 0 1 (by first | rfl | assumption | omega) (by first | rfl | assumption | omega)) gL_areCounted_X6_meet rfl ⟨rfl, rfl⟩ yd_X6_meet ⟨Nat.le_of_ble_eq_true rfl, Nat.le_of_ble_eq_true rfl⟩ rfl rfl (Nat.le_of_ble_eq_true rfl) ⟨Nat.le_of_ble_eq_true rfl, Nat.le_of_ble_eq_true rfl⟩ dL_areCounted_87 ?_
      rintro r39 ⟨F39, hs39, G39, T39⟩ hu39
      obtain ⟨rfl, hv39⟩ := hu39
      cases hv39
      refine zz_world (P' := (LPo D C K kL kH (x, (F, hs4, G, T), b))) (fun _ h => h) ?_
      refine zz_iload_n 90 X.1 1 dL_areCounted_90 rfl ?_
      refine zz_if_le 91 98 X.1 (nI_toInt (by omega)) dL_areCounted_91 (by decide) (fun h91 => ?_) (fun h91 => ?_)
      · skip
        refine zz_iconst 98 X.1 (v := nI 0) dL_areCounted_98 rfl ?_
        refine zz_topi (bI false) rfl ?_
        refine zz_icmpB_eq 99 104 X.1 dL_areCounted_99 (by decide) (fun h99 => ?_) (fun h99 => ?_)
        · skip
          refine zz_lvs [0, 1, 2] rfl ?_
          exact C104  
        · exfalso; have qa0 := ct_cong (n := 1024) (pA_cong (x := true) (y := false) g4_0 g4_1); have qa1 := ct_cong (n := 1024) (pA_cong (x := false) (y := true) g4_0 g4_1); have qa2 := ct_cong (n := 1024) (pA_cong (x := true) (y := true) g4_0 g4_1); have qa3 := ct_cong (n := 1024) (pA_cong (x := false) (y := false) g4_0 g4_1); first | exact h99 (decide_eq_true (by omega)) | exact h99 (decide_eq_false (by omega))
      · skip
        refine zz_iconst 94 X.1 (v := nI 1) dL_areCounted_94 rfl ?_
        refine zz_goto 95 99 X.1 dL_areCounted_95 (by decide) ?_
        refine zz_topi (bI true) rfl ?_
        refine zz_icmpB_eq 99 104 X.1 dL_areCounted_99 (by decide) (fun h99 => ?_) (fun h99 => ?_)
        · skip
          refine zz_lvs [0, 1, 2] rfl ?_
          exact C104  
        · exfalso; have qa0 := ct_cong (n := 1024) (pA_cong (x := true) (y := false) g4_0 g4_1); have qa1 := ct_cong (n := 1024) (pA_cong (x := false) (y := true) g4_0 g4_1); have qa2 := ct_cong (n := 1024) (pA_cong (x := true) (y := true) g4_0 g4_1); have qa3 := ct_cong (n := 1024) (pA_cong (x := false) (y := false) g4_0 g4_1); first | exact h99 (decide_eq_true (by omega)) | exact h99 (decide_eq_false (by omega))
