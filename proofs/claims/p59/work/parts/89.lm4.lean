abbrev rm_L_says : Room := { frames := 7, cells := 0, slots := 0, locals := 116 }
theorem yd_L_says : yL_says.cls = RL ∧ yL_says.cls ≠ "java/lang/invoke/MethodHandle" ∧ yL_says.cls ≠ "java/lang/invoke/VarHandle" ∧ (parseMethodDescriptor yL_says.desc).map (fun d => d.parameters.length) = some 1 := by decide +kernel
set_option maxHeartbeats 4000000 in
set_option maxRecDepth 100000 in
theorem kt_L_says (l : Launch) (D : va_G) (C : Nat → ClassId) (K : Nat → Nat) (kL kH : Nat) (ad : Nat → Nat) (hAp : LAp K kL kH) (x : Int32) (F : Nat → Int32) (hs : Nat → Bool) (G T : Nat → Nat → Int32) (b : Nat → Bool) (sa : Nat) (sv : Nat) (nt : Nat) (t : Nat → Nat) (hnt : nt ≤ 40) (ht : ∀ j, 0 < t j ∧ t j < 128) (hF0 : F 4 = nI 0) : LNi l yL_says wsL_says rm_L_says D C K kL kH (fun Z U => LAm ad Z U ∧ STx sa sv nt (tx t nt) Z U) [.ref sa] x F hs G T b (fun (r : Int32) (q : LSt) => ∃ (F1 : Nat → Int32) (G1 : Nat → Nat → Int32), r = (nI nt) ∧ q = (x, (F1, hs, G1, T), b) ∧ F1 4 = nI nt ∧ ∀ j, j < nt → G1 3 j = nI (t j)) := by
  refine LNi_of (lv := [(0, .ref kL), (1, .ref sa)]) (cc := cL_says) (maxL := 6) (ret := (some .int)) (LAm_ok.and STx_ok) rfl (by decide +kernel) (Nat.le_of_ble_eq_true rfl) rfl ?_
  intro p e s m args below meth c X hLN hml hr hlk
  have hLA := hLN.1
  generalize hQ : MQ below _ args s 0 0 _ = Q
  refine zz_iconst 0 X.1 (v := nI 0) dL_says_0 rfl ?_
  refine zz_topi (nI (min 0 nt)) (congrArg nI (by omega)) ?_
  refine zz_istore_n 1 X.1 (lv' := [(2, .int (nI (min 0 nt))), (0, .ref kL), (1, .ref sa)]) dL_says_1 (by decide) rfl ?_
  refine zz_iconst 2 X.1 (v := nI 0) dL_says_2 rfl ?_
  refine zz_istore_n 3 X.1 (lv' := [(3, .int (nI 0)), (2, .int (nI (min 0 nt))), (0, .ref kL), (1, .ref sa)]) dL_says_3 (by decide) rfl ?_
  have C4 : ∀ (d : Nat) (F9 : Nat → Int32) (G9 : Nat → Nat → Int32) (k9 : Nat) (hk : k9 ≤ nt + 3) (hF9 : F9 4 = nI (min k9 nt)) (hG9 : ∀ j, j < min k9 nt → G9 3 j = nI (t j)) (hd : nt + 4 - k9 < d), ZZ p l e rm_L_says s m args below meth c 0 0 Q (zz_A (LZ K kL kH) s.heap.size) (LPo D C K kL kH (x, (F9, hs, G9, T), b)) 6 [(0, .ref kL), (1, .ref sa), (2, .int (nI (min k9 nt))), (3, .int (nI k9))] [] 4 := by
    intro d
    induction d with
    | zero => intro F9 G9 k9 hk hF9 hG9 hd; exact absurd hd (Nat.not_lt_zero _)
    | succ d ih4 =>
      intro F9 G9 k9 hk hF9 hG9 hd
      refine zz_iload_n 4 X.1 3 dL_says_4 rfl ?_
      refine zz_aload_n 5 X.1 1 dL_says_5 rfl ?_
      refine zz_callVNi 6 STx_ok (hLN.2) ⟨X.1.1, X.1.2, hml, X.2.2.1, X.2.1⟩ (fun q h => Or.inr h) LP_keep (As := []) (kt_J0_length_s l sa sv nt (tx t nt) ) hLN.2.1.1 gL_says_J0_length_8abf5 rfl ⟨rfl, rfl⟩ yd_J0_length_8abf5 ⟨Nat.le_of_ble_eq_true rfl, Nat.le_of_ble_eq_true rfl⟩ rfl rfl (Nat.le_of_ble_eq_true rfl) ⟨Nat.le_of_ble_eq_true rfl, Nat.le_of_ble_eq_true rfl⟩ dL_says_6 ?_
      intro r1 hu1
      obtain rfl := hu1
      refine zz_icmp_ge 9 75 X.1 (nI_toInt (by omega)) (nI_toInt (by omega)) dL_says_9 (by decide) (fun h9 => ?_) (fun h9 => ?_)
      · skip
        refine zz_iload_n 75 X.1 2 dL_says_75 rfl ?_
        rw [← hQ]
        refine zz_iret 76 X.1 hr rfl hlk (x, (F9, hs, G9, T), b) ?_ (fun _ h _ => h) dL_says_76
        exact ⟨F9, G9, congrArg nI (by omega), rfl, hF9.trans (congrArg nI (by omega)), fun j hj => hG9 j (by omega)⟩
      · skip
        refine zz_iconst 12 X.1 (v := nI 0) dL_says_12 rfl ?_
        refine zz_istore 13 X.1 (lv' := [(4, .int (nI 0)), (0, .ref kL), (1, .ref sa), (2, .int (nI (min k9 nt))), (3, .int (nI k9))]) dL_says_13 (by decide) rfl ?_
        refine zz_iload_n 15 X.1 4 dL_says_15 rfl ?_
        refine zz_istore 16 X.1 (lv' := [(5, .int (nI k9)), (4, .int (nI 0)), (0, .ref kL), (1, .ref sa), (2, .int (nI (min k9 nt))), (3, .int (nI k9))]) dL_says_16 (by decide) rfl ?_
        have C55 : ∀ (w0 : Nat) (hw : w0 ≤ 4 ∧ k9 + w0 = min (k9 + 4) nt), ZZ p l e rm_L_says s m args below meth c 0 0 Q (zz_A (LZ K kL kH) s.heap.size) (LPo D C K kL kH (x, (F9, hs, G9, T), b)) 6 [(0, .ref kL), (1, .ref sa), (2, .int (nI (min k9 nt))), (3, .int (nI k9)), (4, .int (nI (ac t k9 w0))), (5, .int (nI (k9 + w0)))] [] 55 := by
          intro w0 hw
          have ta := t4_ac (g := G9 3) (k := k9) (w := w0) ht hw.1 (fun j hj => hG9 j (by omega))
          refine zz_aload_n 55 X.1 0 dL_says_55 rfl ?_
          refine ll_get 56 X (by decide +kernel) 1 (by decide) (v := .ref (K 0)) rfl (by decide +kernel) rfl dL_says_56 ?_
          refine zz_iload 59 X.1 4 dL_says_59 rfl ?_
          refine zz_iconst 61 X.1 (v := nI 0) dL_says_61 rfl ?_
          refine zz_iconst 62 X.1 (v := nI 0) dL_says_62 rfl ?_
          refine zz_iconst 63 X.1 (v := nI 0) dL_says_63 rfl ?_
          refine zz_iconst 64 X.1 (v := nI 0) dL_says_64 rfl ?_
          refine ll_callDi 65 X hml hAp (As := [.int (nI (ac t k9 w0)), .int (nI 0), .int (nI 0), .int (nI 0), .int (nI 0)]) (kt_X6_append_ok l D C K hAp.1 F9 hs G9 T (nI (ac t k9 w0)) (nI 0) (nI 0) (nI 0) (nI 0) k9 (hF9.trans (congrArg nI (by omega))) (by omega) (by rw [ta.1, nb_z]; omega)) gL_says_X6_append rfl ⟨rfl, rfl⟩ yd_X6_append ⟨Nat.le_of_ble_eq_true rfl, Nat.le_of_ble_eq_true rfl⟩ rfl rfl (Nat.le_of_ble_eq_true rfl) ⟨Nat.le_of_ble_eq_true rfl, Nat.le_of_ble_eq_true rfl⟩ dL_says_65 ?_
          rintro r2 ⟨F2, hs2, G2, T2⟩ hu2
          obtain ⟨rfl, hv2⟩ := hu2
          cases hv2
          refine zz_world (P' := (LPo D C K kL kH (x, ((upd F9 4 (nI (((((k9 + nb (nI (ac t k9 w0))) + nb (nI 0)) + nb (nI 0)) + nb (nI 0)) + nb (nI 0)))), hs, (va_up G9 3 ((t4 (nI 0) ((t4 (nI 0) ((t4 (nI 0) ((t4 (nI 0) ((t4 (nI (ac t k9 w0)) (G9 3, k9)).1, k9 + nb (nI (ac t k9 w0)))).1, (k9 + nb (nI (ac t k9 w0))) + nb (nI 0))).1, ((k9 + nb (nI (ac t k9 w0))) + nb (nI 0)) + nb (nI 0))).1, (((k9 + nb (nI (ac t k9 w0))) + nb (nI 0)) + nb (nI 0)) + nb (nI 0))).1)), T), b))) (fun _ h => h) ?_
          refine zz_topi (nI (min (k9 + 4) nt)) (congrArg nI (by rw [ta.1, nb_z]; omega)) ?_
          refine zz_istore_n 68 X.1 (lv' := [(2, .int (nI (min (k9 + 4) nt))), (0, .ref kL), (1, .ref sa), (3, .int (nI k9)), (4, .int (nI (ac t k9 w0))), (5, .int (nI (k9 + w0)))]) dL_says_68 (by decide) rfl ?_
          refine zz_iinc 69 X.1 3 (v := (nI (k9 + 4))) (lv' := [(3, .int (nI (k9 + 4))), (2, .int (nI (min (k9 + 4) nt))), (0, .ref kL), (1, .ref sa), (4, .int (nI (ac t k9 w0))), (5, .int (nI (k9 + w0)))]) dL_says_69 rfl (nI_add k9 4) (by decide) rfl ?_
          refine zz_goto 72 4 X.1 dL_says_72 (by decide) ?_
          refine zz_lvs [2, 3, 1, 0] rfl ?_
          exact ih4 (upd F9 4 (nI (((((k9 + nb (nI (ac t k9 w0))) + nb (nI 0)) + nb (nI 0)) + nb (nI 0)) + nb (nI 0)))) (va_up G9 3 ((t4 (nI 0) ((t4 (nI 0) ((t4 (nI 0) ((t4 (nI 0) ((t4 (nI (ac t k9 w0)) (G9 3, k9)).1, k9 + nb (nI (ac t k9 w0)))).1, (k9 + nb (nI (ac t k9 w0))) + nb (nI 0))).1, ((k9 + nb (nI (ac t k9 w0))) + nb (nI 0)) + nb (nI 0))).1, (((k9 + nb (nI (ac t k9 w0))) + nb (nI 0)) + nb (nI 0)) + nb (nI 0))).1)) (k9 + 4) (by omega) ((if_pos rfl).trans (congrArg nI (by rw [ta.1, nb_z]; omega))) (fun j hj => by show (t4 _ _).1 j = _; simp only [t4_z]; exact ta.2 j (by omega)) (by omega)
        have C18 : ∀ (d : Nat) (w0 : Nat) (hw : w0 ≤ 4 ∧ k9 + w0 ≤ nt) (hd : 5 - w0 < d), ZZ p l e rm_L_says s m args below meth c 0 0 Q (zz_A (LZ K kL kH) s.heap.size) (LPo D C K kL kH (x, (F9, hs, G9, T), b)) 6 [(0, .ref kL), (1, .ref sa), (2, .int (nI (min k9 nt))), (3, .int (nI k9)), (4, .int (nI (ac t k9 w0))), (5, .int (nI (k9 + w0)))] [] 18 := by
          intro d
          induction d with
          | zero => intro w0 hw hd; exact absurd hd (Nat.not_lt_zero _)
          | succ d ih18 =>
            intro w0 hw hd
            have hl := ac_lt (k := k9) ht w0 hw.1
            refine zz_iload 18 X.1 5 dL_says_18 rfl ?_
            refine zz_iload_n 20 X.1 3 dL_says_20 rfl ?_
            refine zz_iconst 21 X.1 (v := nI 4) dL_says_21 rfl ?_
            refine zz_iadd 22 X.1 (v := (nI (k9 + 4))) dL_says_22 (nI_add _ _) ?_
            refine zz_icmp_ge 23 55 X.1 (nI_toInt (by omega)) (nI_toInt (by omega)) dL_says_23 (by decide) (fun h23 => ?_) (fun h23 => ?_)
            · skip
              refine zz_lvs [0, 1, 2, 3, 4, 5] rfl ?_
              exact C55 w0 (by omega)
            · skip
              refine zz_iload 26 X.1 5 dL_says_26 rfl ?_
              refine zz_aload_n 28 X.1 1 dL_says_28 rfl ?_
              refine zz_callVNi 29 STx_ok (hLN.2) ⟨X.1.1, X.1.2, hml, X.2.2.1, X.2.1⟩ (fun q h => Or.inr h) LP_keep (As := []) (kt_J0_length_s l sa sv nt (tx t nt) ) hLN.2.1.1 gL_says_J0_length_8abf5 rfl ⟨rfl, rfl⟩ yd_J0_length_8abf5 ⟨Nat.le_of_ble_eq_true rfl, Nat.le_of_ble_eq_true rfl⟩ rfl rfl (Nat.le_of_ble_eq_true rfl) ⟨Nat.le_of_ble_eq_true rfl, Nat.le_of_ble_eq_true rfl⟩ dL_says_29 ?_
              intro r3 hu3
              obtain rfl := hu3
              refine zz_icmp_ge 32 55 X.1 (nI_toInt (by omega)) (nI_toInt (by omega)) dL_says_32 (by decide) (fun h32 => ?_) (fun h32 => ?_)
              · skip
                refine zz_lvs [0, 1, 2, 3, 4, 5] rfl ?_
                exact C55 w0 (by omega)
              · skip
                refine zz_iload 35 X.1 4 dL_says_35 rfl ?_
                refine zz_bipush 37 X.1 (v := nI 8) dL_says_37 rfl ?_
                refine zz_ishl 39 X.1 (v := (nI (ac t k9 w0 * 256))) dL_says_39 (sh_nI (by omega)) ?_
                refine zz_aload_n 40 X.1 1 dL_says_40 rfl ?_
                refine zz_iload 41 X.1 5 dL_says_41 rfl ?_
                refine zz_callVNi 43 SSx_ok (show SSx _ _ _ _ _ _ from ⟨hLN.2, hLN.1.2.2.2.2⟩) ⟨X.1.1, X.1.2, hml, X.2.2.1, X.2.1⟩ (fun q h => Or.inr h) LP_keep (As := [.int (nI (k9 + w0))]) (kt_J0_charAt_5068e l sa sv nt (tx t nt) (k9 + w0) (by omega) (tx_ex ht)) hLN.2.1.1 gL_says_J0_charAt_5068e rfl ⟨rfl, rfl⟩ yd_J0_charAt_5068e ⟨Nat.le_of_ble_eq_true rfl, Nat.le_of_ble_eq_true rfl⟩ rfl rfl (Nat.le_of_ble_eq_true rfl) ⟨Nat.le_of_ble_eq_true rfl, Nat.le_of_ble_eq_true rfl⟩ dL_says_43 ?_
                intro r4 hu4
                obtain rfl := hu4
                refine zz_topi (nI (t (k9 + w0))) (tx_in (by omega)) ?_
                refine zz_ior 46 X.1 (v := (nI (ac t k9 (w0 + 1)))) dL_says_46 (or_nI (by omega) (ht _).2) ?_
                refine zz_istore 47 X.1 (lv' := [(4, .int (nI (ac t k9 (w0 + 1)))), (0, .ref kL), (1, .ref sa), (2, .int (nI (min k9 nt))), (3, .int (nI k9)), (5, .int (nI (k9 + w0)))]) dL_says_47 (by decide) rfl ?_
                refine zz_iinc 49 X.1 5 (v := (nI (k9 + (w0 + 1)))) (lv' := [(5, .int (nI (k9 + (w0 + 1)))), (4, .int (nI (ac t k9 (w0 + 1)))), (0, .ref kL), (1, .ref sa), (2, .int (nI (min k9 nt))), (3, .int (nI k9))]) dL_says_49 rfl ((nI_add (k9 + w0) 1).trans (congrArg nI (by omega))) (by decide) rfl ?_
                refine zz_goto 52 18 X.1 dL_says_52 (by decide) ?_
                refine zz_lvs [2, 3, 4, 5, 1, 0] rfl ?_
                exact ih18 (w0 + 1) (by omega) (by omega)
        refine zz_lvs [2, 3, 4, 5, 1, 0] rfl ?_
        exact C18 (5 - 0 + 1) 0 (by omega) (Nat.lt_succ_self _)
  refine zz_lvs [2, 3, 1, 0] rfl ?_
  exact C4 (nt + 4 - 0 + 1) F G 0 (by omega) (hF0.trans (congrArg nI (by omega))) (fun j hj => absurd hj (by omega)) (Nat.lt_succ_self _)
