/-! The law walked. -/
set_option maxHeartbeats 40000000 in
set_option maxRecDepth 100000 in
theorem law_body {p : Program} {l : Launch} {e : Env} {s : State} {m : MethodId} {args : Array Value} {below : List Frame} {meth : Method} {c : Code} {Q : State → Prop} {D : va_G} {C : Nat → ClassId} {ad : Nat → Nat} {tb b L : Nat} {xs : Nat → Int32} {K : Nat → Nat} {kL kH : Nat} (X : CCx p s m args c cL_law wsL_law RL D C) (hml : c.maxLocals = 3) (hl : l.stackTraces = false) (hLA : LAm ad (zz_A (LZ K kL kH) s.heap.size) s) (hXT : XTx b L xs (zz_A (LZ K kL kH) s.heap.size) s) (hL : L ≤ 260) (hAp : LAp K kL kH) (hLZ : ∀ z, LZ K kL kH z → s.heap.size ≤ z)
    (hx : ∀ (K : Nat → Nat) (kL kH : Nat) (q : LSt) (lv : List (Nat × Value)) (cells slots : Nat), cells ≤ 600064 → slots ≤ 7301640 → (∀ z, LZ K kL kH z → s.heap.size ≤ z) → ZZ p l e room_1 s m args below meth c cells slots Q (zz_A (LZ K kL kH) s.heap.size) (LPo D C K kL kH q) 3 lv [.int 1] 120) : ZZ p l e room_1 s m args below meth c 131 10775 Q (zz_A (LZ K kL kH) s.heap.size) (LPo D C K kL kH (0, (cF0, hs00, fun _ _ => 0, fun _ _ => 0), fun _ => false)) 3 [(1, .ref kL), (0, .ref b)] [] 8 := by
  refine zz_aload_n 8 X.1 0 dL_law_8 rfl ?_
  refine zz_aload_n 9 X.1 1 dL_law_9 rfl ?_
  refine zz_callSNi 10 XTx_ok hXT ⟨X.1.1, X.1.2, hml, X.2.2.1, X.2.1⟩ (fun q h => Or.inr h) LP_keep (As := [.ref b]) (kt_L_stirred l b L xs hL) gL_law_L_stirred rfl ⟨rfl, rfl⟩ yd_L_stirred.2 ⟨Nat.le_of_ble_eq_true rfl, Nat.le_of_ble_eq_true rfl⟩ rfl rfl (Nat.le_of_ble_eq_true rfl) ⟨Nat.le_of_ble_eq_true rfl, Nat.le_of_ble_eq_true rfl⟩ dL_law_10 ?_
  intro r10 _
  refine ll_putx 13 hAp X (by decide +kernel) (y := r10) (by decide +kernel) (by decide +kernel) (by decide +kernel) dL_law_13 ?_
  refine zz_iconst 16 X.1 (v := nI 0) dL_law_16 rfl ?_
  refine zz_istore_n 17 X.1 (lv' := [(2, .int (nI 0)), (1, .ref kL), (0, .ref b)]) dL_law_17 (by decide) rfl ?_
  have C18 : ∀ (d : Nat) (hs9 : Nat → Bool) (x9 : Int32) (i : Nat) (hi : i ≤ 3) (hd : 3 - i < d), ZZ p l e room_1 s m args below meth c 131 10775 Q (zz_A (LZ K kL kH) s.heap.size) (LPo D C K kL kH (x9, (cF0, hs9, (fun _ _ => 0), (fun _ _ => 0)), (fun _ => false))) 3 [(0, .ref b), (1, .ref kL), (2, .int (nI i))] [] 18 := by
    intro d
    induction d with
    | zero => intro hs9 x9 i hi hd; exact absurd hd (Nat.not_lt_zero _)
    | succ d ih18 =>
      intro hs9 x9 i hi hd
      refine zz_iload_n 18 X.1 2 dL_law_18 rfl ?_
      refine zz_iconst 19 X.1 (v := nI 3) dL_law_19 rfl ?_
      refine zz_icmp_ge 20 34 X.1 (nI_toInt (by omega)) (nI_toInt (by omega)) dL_law_20 (by decide) (fun h20 => ?_) (fun h20 => ?_)
      · skip
        refine zz_aload_n 34 X.1 1 dL_law_34 rfl ?_
        refine ll_callLi 35 X hLA hml (As := []) (kt_L_areRead l D C K kL kH ad hAp x9 cF0 hs9 (fun _ _ => 0) (fun _ _ => 0) (fun _ => false)  ) gL_law_L_areRead rfl ⟨rfl, rfl⟩ yd_L_areRead ⟨Nat.le_of_ble_eq_true rfl, Nat.le_of_ble_eq_true rfl⟩ rfl rfl (Nat.le_of_ble_eq_true rfl) ⟨Nat.le_of_ble_eq_true rfl, Nat.le_of_ble_eq_true rfl⟩ dL_law_35 ?_
        rintro r1 ⟨x1, ⟨F1, hs1, G1, T1⟩, b1⟩ hu1
        obtain ⟨b1_1, rfl, hv1, hf1_0⟩ := hu1
        cases hv1
        refine zz_world (P' := (LPo D C K kL kH (x9, (cF0, hs9, (fun _ _ => 0), (fun _ _ => 0)), b1))) (fun _ h => h) ?_
        refine zz_ifB_eq 38 73 X.1 dL_law_38 (by decide) (fun h38 => ?_) (fun h38 => ?_)
        · exact absurd h38 (by decide)
        · skip
          refine zz_aload_n 41 X.1 1 dL_law_41 rfl ?_
          refine zz_iconst 42 X.1 (v := nI 1) dL_law_42 rfl ?_
          refine ll_callLi 43 X hLA hml (As := [.int (bI true)]) (kt_L_areMissing_t l D C K kL kH ad hAp x9 cF0 hs9 (fun _ _ => 0) (fun _ _ => 0) b1  (by first | rfl | assumption | omega)) gL_law_L_areMissing rfl ⟨rfl, rfl⟩ yd_L_areMissing ⟨Nat.le_of_ble_eq_true rfl, Nat.le_of_ble_eq_true rfl⟩ rfl rfl (Nat.le_of_ble_eq_true rfl) ⟨Nat.le_of_ble_eq_true rfl, Nat.le_of_ble_eq_true rfl⟩ dL_law_43 ?_
          rintro r2 ⟨x2, ⟨F2, hs2, G2, T2⟩, b2⟩ hu2
          obtain ⟨hs1_2, rfl, hv2, hf2_0⟩ := hu2
          cases hv2
          refine zz_world (P' := (LPo D C K kL kH (x9, (cF0, hs2, (fun _ _ => 0), (fun _ _ => 0)), b1))) (fun _ h => h) ?_
          refine zz_ifB_eq 46 73 X.1 dL_law_46 (by decide) (fun h46 => ?_) (fun h46 => ?_)
          · exact absurd h46 (by decide)
          · skip
            refine zz_aload_n 49 X.1 1 dL_law_49 rfl ?_
            refine zz_iconst 50 X.1 (v := nI 0) dL_law_50 rfl ?_
            refine ll_callLi 51 X hLA hml (As := [.int (bI false)]) (kt_L_areMissing_f l D C K kL kH ad hAp x9 cF0 hs2 (fun _ _ => 0) (fun _ _ => 0) b1  (by first | rfl | assumption | omega)) gL_law_L_areMissing rfl ⟨rfl, rfl⟩ yd_L_areMissing ⟨Nat.le_of_ble_eq_true rfl, Nat.le_of_ble_eq_true rfl⟩ rfl rfl (Nat.le_of_ble_eq_true rfl) ⟨Nat.le_of_ble_eq_true rfl, Nat.le_of_ble_eq_true rfl⟩ dL_law_51 ?_
            rintro r3 ⟨x3, ⟨F3, hs3, G3, T3⟩, b3⟩ hu3
            obtain ⟨hs1_3, rfl, hv3, hf3_0⟩ := hu3
            cases hv3
            refine zz_world (P' := (LPo D C K kL kH (x9, (cF0, hs3, (fun _ _ => 0), (fun _ _ => 0)), b1))) (fun _ h => h) ?_
            refine zz_ifB_eq 54 73 X.1 dL_law_54 (by decide) (fun h54 => ?_) (fun h54 => ?_)
            · exact absurd h54 (by decide)
            · skip
              refine zz_aload_n 57 X.1 1 dL_law_57 rfl ?_
              refine zz_iconst 58 X.1 (v := nI 1) dL_law_58 rfl ?_
              refine ll_callLi 59 X hLA hml (As := [.int (bI true)]) (kt_L_areDistributed_t l D C K kL kH ad hAp x9 cF0 hs3 (fun _ _ => 0) (fun _ _ => 0) b1  (by first | rfl | assumption | omega)) gL_law_L_areDistributed rfl ⟨rfl, rfl⟩ yd_L_areDistributed ⟨Nat.le_of_ble_eq_true rfl, Nat.le_of_ble_eq_true rfl⟩ rfl rfl (Nat.le_of_ble_eq_true rfl) ⟨Nat.le_of_ble_eq_true rfl, Nat.le_of_ble_eq_true rfl⟩ dL_law_59 ?_
              rintro r4 ⟨x4, ⟨F4, hs4, G4, T4⟩, b4⟩ hu4
              obtain ⟨hs1_4, rfl, hv4, hf4_0⟩ := hu4
              cases hv4
              refine zz_world (P' := (LPo D C K kL kH (x9, (cF0, hs4, (fun _ _ => 0), (fun _ _ => 0)), b1))) (fun _ h => h) ?_
              refine zz_ifB_eq 62 73 X.1 dL_law_62 (by decide) (fun h62 => ?_) (fun h62 => ?_)
              · exact absurd h62 (by decide)
              · skip
                refine zz_aload_n 65 X.1 1 dL_law_65 rfl ?_
                refine zz_iconst 66 X.1 (v := nI 0) dL_law_66 rfl ?_
                refine ll_callLi 67 X hLA hml (As := [.int (bI false)]) (kt_L_areDistributed_f l D C K kL kH ad hAp x9 cF0 hs4 (fun _ _ => 0) (fun _ _ => 0) b1  (by first | rfl | assumption | omega)) gL_law_L_areDistributed rfl ⟨rfl, rfl⟩ yd_L_areDistributed ⟨Nat.le_of_ble_eq_true rfl, Nat.le_of_ble_eq_true rfl⟩ rfl rfl (Nat.le_of_ble_eq_true rfl) ⟨Nat.le_of_ble_eq_true rfl, Nat.le_of_ble_eq_true rfl⟩ dL_law_67 ?_
                rintro r5 ⟨x5, ⟨F5, hs5, G5, T5⟩, b5⟩ hu5
                obtain ⟨hs1_5, rfl, hv5, hf5_0⟩ := hu5
                cases hv5
                refine zz_world (P' := (LPo D C K kL kH (x9, (cF0, hs5, (fun _ _ => 0), (fun _ _ => 0)), b1))) (fun _ h => h) ?_
                refine zz_ifB_ne 70 75 X.1 dL_law_70 (by decide) (fun h70 => ?_) (fun h70 => ?_)
                · skip
                  refine zz_aload_n 75 X.1 1 dL_law_75 rfl ?_
                  refine ll_callLi 76 X hLA hml (As := []) (kt_L_areCounted l D C K kL kH ad hAp x9 cF0 hs5 (fun _ _ => 0) (fun _ _ => 0) b1  (by first | rfl | assumption | omega)) gL_law_L_areCounted rfl ⟨rfl, rfl⟩ yd_L_areCounted ⟨Nat.le_of_ble_eq_true rfl, Nat.le_of_ble_eq_true rfl⟩ rfl rfl (Nat.le_of_ble_eq_true rfl) ⟨Nat.le_of_ble_eq_true rfl, Nat.le_of_ble_eq_true rfl⟩ dL_law_76 ?_
                  rintro r6 ⟨x6, ⟨F6, hs6, G6, T6⟩, b6⟩ hu6
                  obtain ⟨hs1_6, rfl, hv6, hf6_0⟩ := hu6
                  cases hv6
                  refine zz_world (P' := (LPo D C K kL kH (x9, (cF0, hs6, (fun _ _ => 0), (fun _ _ => 0)), b1))) (fun _ h => h) ?_
                  refine zz_ifB_eq 79 119 X.1 dL_law_79 (by decide) (fun h79 => ?_) (fun h79 => ?_)
                  · exact absurd h79 (by decide)
                  · skip
                    refine zz_aload_n 82 X.1 1 dL_law_82 rfl ?_
                    refine zz_aload_n 83 X.1 1 dL_law_83 rfl ?_
                    refine zz_iconst 84 X.1 (v := nI 3) dL_law_84 rfl ?_
                    refine ll_callLi 85 X hLA hml (As := [.int (nI 3)]) (kt_L_next l D C K kL kH ad hAp x9 cF0 hs6 (fun _ _ => 0) (fun _ _ => 0) b1 3 (by first | rfl | assumption | omega)) gL_law_L_next rfl ⟨rfl, rfl⟩ yd_L_next ⟨Nat.le_of_ble_eq_true rfl, Nat.le_of_ble_eq_true rfl⟩ rfl rfl (Nat.le_of_ble_eq_true rfl) ⟨Nat.le_of_ble_eq_true rfl, Nat.le_of_ble_eq_true rfl⟩ dL_law_85 ?_
                    rintro r7 ⟨x7, ⟨F7, hs7, G7, T7⟩, b7⟩ hu7
                    obtain ⟨k1_7, x1_7, rfl, hv7, hf7_0⟩ := hu7
                    cases hv7
                    refine zz_world (P' := (LPo D C K kL kH (x7, (cF0, hs6, (fun _ _ => 0), (fun _ _ => 0)), b1))) (fun _ h => h) ?_
                    refine ll_callLi 88 X hLA hml (As := [.int (nI k1_7)]) (kt_L_isBuilt l D C K kL kH ad hAp x7 cF0 hs6 (fun _ _ => 0) (fun _ _ => 0) b1 k1_7 (by first | rfl | assumption | omega) (by first | rfl | assumption | omega)) gL_law_L_isBuilt rfl ⟨rfl, rfl⟩ yd_L_isBuilt ⟨Nat.le_of_ble_eq_true rfl, Nat.le_of_ble_eq_true rfl⟩ rfl rfl (Nat.le_of_ble_eq_true rfl) ⟨Nat.le_of_ble_eq_true rfl, Nat.le_of_ble_eq_true rfl⟩ dL_law_88 ?_
                    rintro r8 ⟨x8, ⟨F8, hs8, G8, T8⟩, b8⟩ hu8
                    obtain ⟨hs1_8, x1_8, rfl, hv8, hf8_0⟩ := hu8
                    cases hv8
                    refine zz_world (P' := (LPo D C K kL kH (x8, (cF0, hs8, (fun _ _ => 0), (fun _ _ => 0)), b1))) (fun _ h => h) ?_
                    refine zz_ifB_eq 91 119 X.1 dL_law_91 (by decide) (fun h91 => ?_) (fun h91 => ?_)
                    · exact absurd h91 (by decide)
                    · skip
                      refine zz_aload_n 94 X.1 1 dL_law_94 rfl ?_
                      refine ll_callLi 95 X hLA hml (As := []) (kt_L_isPart l D C K kL kH ad hAp x8 cF0 hs8 (fun _ _ => 0) (fun _ _ => 0) b1  (by first | rfl | assumption | omega)) gL_law_L_isPart rfl ⟨rfl, rfl⟩ yd_L_isPart ⟨Nat.le_of_ble_eq_true rfl, Nat.le_of_ble_eq_true rfl⟩ rfl rfl (Nat.le_of_ble_eq_true rfl) ⟨Nat.le_of_ble_eq_true rfl, Nat.le_of_ble_eq_true rfl⟩ dL_law_95 ?_
                      rintro r9 ⟨x9, ⟨F9, hs9, G9, T9⟩, b9⟩ hu9
                      obtain ⟨hs1_9, x1_9, rfl, hv9, hf9_0⟩ := hu9
                      cases hv9
                      refine zz_world (P' := (LPo D C K kL kH (x9, (cF0, hs9, (fun _ _ => 0), (fun _ _ => 0)), b1))) (fun _ h => h) ?_
                      refine zz_ifB_eq 98 119 X.1 dL_law_98 (by decide) (fun h98 => ?_) (fun h98 => ?_)
                      · exact absurd h98 (by decide)
                      · skip
                        refine zz_aload_n 101 X.1 1 dL_law_101 rfl ?_
                        refine ll_callLi 102 X hLA hml (As := []) (kt_L_isScript l D C K kL kH ad hAp x9 cF0 hs9 (fun _ _ => 0) (fun _ _ => 0) b1  (by first | rfl | assumption | omega) (by first | rfl | assumption | omega)) gL_law_L_isScript rfl ⟨rfl, rfl⟩ yd_L_isScript ⟨Nat.le_of_ble_eq_true rfl, Nat.le_of_ble_eq_true rfl⟩ rfl rfl (Nat.le_of_ble_eq_true rfl) ⟨Nat.le_of_ble_eq_true rfl, Nat.le_of_ble_eq_true rfl⟩ dL_law_102 ?_
                        rintro r10 ⟨x10, ⟨F10, hs10, G10, T10⟩, b10⟩ hu10
                        obtain ⟨x1_10, F1_10, hs1_10, G1_10, T1_10, rfl, hv10, hf10_0⟩ := hu10
                        cases hv10
                        refine zz_world (P' := (LPo D C K kL kH (x10, (F10, hs10, G10, T10), b1))) (fun _ h => h) ?_
                        refine zz_ifB_eq 105 119 X.1 dL_law_105 (by decide) (fun h105 => ?_) (fun h105 => ?_)
                        · exact absurd h105 (by decide)
                        · skip
                          refine zz_aload_n 108 X.1 1 dL_law_108 rfl ?_
                          refine ll_callLiW 109 X hLA hml (As := []) (kt_L_isApart l hl D C K kL kH ad hAp x10 F10 hs10 G10 T10 b1  (by first | rfl | assumption | omega)) gL_law_L_isApart rfl ⟨rfl, rfl⟩ yd_L_isApart ⟨Nat.le_of_ble_eq_true rfl, Nat.le_of_ble_eq_true rfl⟩ rfl rfl (Nat.le_of_ble_eq_true rfl) ⟨Nat.le_of_ble_eq_true rfl, Nat.le_of_ble_eq_true rfl⟩ dL_law_109 ?_
                          rintro r11 ⟨x11, ⟨F11, hs11, G11, T11⟩, b11⟩ hu11
                          obtain ⟨x1_11, F1_11, hs1_11, rfl, hv11⟩ := hu11
                          cases hv11
                          refine zz_world (P' := (LPo D C K kL kH (x11, (F11, hs11, G10, T10), b1))) (fun _ h => h) ?_
                          refine zz_ifB_eq 112 119 X.1 dL_law_112 (by decide) (fun h112 => ?_) (fun h112 => ?_)
                          · exact absurd h112 (by decide)
                          · skip
                            refine zz_iconst 115 X.1 (v := nI 1) dL_law_115 rfl ?_
                            refine zz_goto 116 120 X.1 dL_law_116 (by decide) ?_
                            refine zz_topi 1 rfl ?_
                            exact hx K kL kH (x11, (F11, hs11, G10, T10), b1) [(0, .ref b), (1, .ref kL), (2, .int (nI i))] 147 11157 (Nat.le_of_ble_eq_true rfl) (Nat.le_of_ble_eq_true rfl) hLZ
                · exact absurd h70 (by decide)
      · skip
        refine zz_aload_n 23 X.1 1 dL_law_23 rfl ?_
        refine zz_iload_n 24 X.1 2 dL_law_24 rfl ?_
        refine ll_callLv 25 X hLA hml (As := [.int (nI i)]) (kt_L_makes l D C K kL kH ad hAp x9 cF0 hs9 (fun _ _ => 0) (fun _ _ => 0) (fun _ => false) i (by first | rfl | assumption | omega)) gL_law_L_makes rfl ⟨rfl, rfl⟩ yd_L_makes ⟨Nat.le_of_ble_eq_true rfl, Nat.le_of_ble_eq_true rfl⟩ rfl rfl (Nat.le_of_ble_eq_true rfl) ⟨Nat.le_of_ble_eq_true rfl, Nat.le_of_ble_eq_true rfl⟩ dL_law_25 ?_
        rintro ⟨x12, ⟨F12, hs12, G12, T12⟩, b12⟩ hu12
        obtain ⟨hs1_12, x1_12, hv12⟩ := hu12
        cases hv12
        refine zz_world (P' := (LPo D C K kL kH (x12, (cF0, hs12, (fun _ _ => 0), (fun _ _ => 0)), (fun _ => false)))) (fun _ h => h) ?_
        refine zz_iinc 28 X.1 2 (v := (nI (i + 1))) (lv' := [(2, .int (nI (i + 1))), (0, .ref b), (1, .ref kL)]) dL_law_28 rfl (nI_add i 1) (by decide) rfl ?_
        refine zz_goto 31 18 X.1 dL_law_31 (by decide) ?_
        refine zz_lvs [1, 2, 0] rfl ?_
        exact ih18 hs12 x12 (i + 1) (by omega) (by omega)
  refine zz_lvs [2, 1, 0] rfl ?_
  exact C18 (3 - 0 + 1) hs00 r10 0 (by omega) (Nat.lt_succ_self _)
set_option maxHeartbeats 8000000 in
set_option maxRecDepth 100000 in
theorem law_walk {p : Program} {l : Launch} {e : Env} {s : State} {m : MethodId} {args : Array Value} {below : List Frame} {meth : Method} {c : Code} {Q : State → Prop} {D : va_G} {C : Nat → ClassId} {ad : Nat → Nat} {tb b L : Nat} {xs : Nat → Int32} (X : CCx p s m args c cL_law wsL_law RL D C) (hml : c.maxLocals = 3) (hl : l.stackTraces = false) (hLA : LAm ad (fun q => s.heap.size ≤ q) s) (hN6 : NX6 tb (fun q => s.heap.size ≤ q) s) (hXT : XTx b L xs (fun q => s.heap.size ≤ q) s) (hL : L ≤ 260)
    (hx : ∀ (K : Nat → Nat) (kL kH : Nat) (q : LSt) (lv : List (Nat × Value)) (cells slots : Nat), cells ≤ 600064 → slots ≤ 7301640 → (∀ z, LZ K kL kH z → s.heap.size ≤ z) → ZZ p l e room_1 s m args below meth c cells slots Q (zz_A (LZ K kL kH) s.heap.size) (LPo D C K kL kH q) 3 lv [.int 1] 120) : ZZ p l e room_1 s m args below meth c 0 0 Q (fun q => s.heap.size ≤ q) (LPw (fun q => s.heap.size ≤ q) D []) 3 [(0, .ref b)] [] 0 := by
  have hA : ∀ q : Nat, s.heap.size ≤ q → (fun q => s.heap.size ≤ q) q := fun q h => h
  refine zl_new 0 X hA (Cn := RL) (T := TL) (N := 3) (ci := 7) (fs := [.int 0, .null, .null]) inlL tyL tyL_ok (index := 11) (by decide +kernel) (by decide +kernel) (by decide +kernel) rfl (by decide +kernel) ⟨Nat.le_of_ble_eq_true rfl, Nat.le_of_ble_eq_true rfl⟩ dL_law_0 ?_
  intro q1
  refine zz_dup 3 X.1 dL_law_3 rfl ?_
  refine zl_callIY 4 X hml hA (N := fun sz U => NX6 tb (zz_A (fun q => q = q1) sz) U) (fun sz U g mk a h => h.calling g mk a) (fun H locs U hq hS hU hW => NX6.moved (locs := locs) hW (by rw [hU]; exact hS) (fun q h => h.elim (fun h => h ▸ hq) (fun h => Nat.le_trans hS.1 h)) hN6) (kt_L_init l D C q1 tb) (cwI 0 X.2.1 gL_law_L_init rfl rfl rfl (X.2.1 (.initialized RL) (by decide +kernel)) (X.2.1 (.methodLink RL 257 yL_init) (by decide +kernel)) (X.2.1 (.instanceMethod yL_init) (by decide +kernel)) rfl (by decide +kernel) ⟨Nat.le_of_ble_eq_true rfl, Nat.le_of_ble_eq_true rfl⟩) (Nat.le_of_ble_eq_true rfl) ⟨Nat.le_of_ble_eq_true rfl, Nat.le_of_ble_eq_true rfl⟩ dL_law_4 ?_
  rintro ⟨K, kH⟩ hU
  refine zz_have (F := LAp K q1 kH ∧ ∀ z, LZ K q1 kH z → (fun q => s.heap.size ≤ q) z) (fun H h => LAp_ofL (q := (0, (cF0, hs00, fun _ _ => 0, fun _ _ => 0), fun _ => false)) (C := C) hU h.2) ?_
  rintro ⟨hAp, hLZ⟩
  have hw : ∀ q, zz_A (LZ K q1 kH) s.heap.size q → (fun q => s.heap.size ≤ q) q := fun q h => h.elim (fun h => hLZ q h) (fun h => h)
  refine zz_world (P' := LPo D C K q1 kH (0, (cF0, hs00, fun _ _ => 0, fun _ _ => 0), fun _ => false)) (fun H h => h.1) ?_
  refine zz_astore_n 7 X.1 dL_law_7 (by decide) (lv' := [(1, .ref q1), (0, .ref b)]) rfl ?_
  refine zz_wide (A' := zz_A (LZ K q1 kH) s.heap.size) (fun q h => Or.inr h) ?_
  exact law_body (tb := tb) X hml hl (hLA.narrow hw) (XTx_ok.2.1 _ _ _ hw hXT) hL hAp hLZ hx
