/-! A statement done, as its tokens tell it; all statements; run. -/
theorem kt_X6_doStatement (l : Launch) (D : va_G) (C : Nat → ClassId) (K : Nat → Nat) (hAp : DAp K) (F : Nat → Int32) (hs : Nat → Bool) (G T : Nat → Nat → Int32) (KK : Nat → Nat) (VV : Nat → Nat) (m0 : Nat) (k0 : Nat) (hST : STB KK VV m0 T (G 43)) (hok : okS KK m0) (hm : m0 ≤ 100) (hV2 : ∀ j, KK j = 2 → VV j < 8) (hV3 : ∀ j, KK j = 3 → VV j < 1024) (hsC : sC KK m0 ≤ 400) (hk : k0 < m0) : CMv l yX6_doStatement wsX6_doStatement rm_X6_doStatement D C K (0)  [.ref (K (100 + k0))] F hs G T (fun (u : CSt) => u = (F, exS KK VV hs (sC KK k0) (sI KK k0), G, T)) := by
  have hk0 : k0 < 100 := by omega
  obtain ⟨e0, e1, e2, e3⟩ := hST.1 k0 hk
  have elv := hST.2 k0 hk
  obtain ⟨h2, hst⟩ := stR_ok (hok k0 hk).2
  have hsm := sC_mono (K := KK) hk
  generalize sI KK k0 = i at e0 e1 e2 e3 elv h2 hst hsm ⊢
  generalize sC KK k0 = c at e0 e1 e2 e3 elv h2 hst hsm ⊢
  have hs0 := hV2 _ h2
  rcases hst with ⟨hr, h3, h4⟩ | ⟨hL, hl3⟩ | ⟨hL, hs5, hst2⟩
  · have hL : isL KK i = false := isL_f (fun z => by omega)
    have hsf : sfi KK VV c i = VV (i + 2) := by unfold sfi; rw [hL]; rfl
    have hsa : sac KK i = KK (i + 1) := by unfold sac; rw [hL]; rfl
    have ha := hV3 _ h3
    rw [hsf] at e2
    rw [hsa] at e1
    have hse : sse KK VV c i < 2 ^ 31 := by
      unfold sse
      rw [hL, if_neg Bool.false_ne_true, if_pos hr]
      by_cases h34 : KK (i + 3) = 4
      · have := hV3 _ (h4 h34)
        rw [if_pos h34]; omega
      · rw [if_neg h34]; omega
    rcases hr with hr | hr | hr
    · have hX : exS KK VV hs c i = sS hs (VV i) (pR (hM hs (VV i)) (VV (i + 2)) (sse KK VV c i) true) := by unfold exS; rw [if_pos hr]
      rw [hX]
      exact kt_X6_doStatement_43 l D C K hAp F hs G T k0 (VV i) (VV (i + 2)) (sse KK VV c i) hk0 hs0 e0 (by rw [e1, hr]) e2 e3 ⟨by omega, hse⟩
    · have hX : exS KK VV hs c i = sS hs (VV i) (pR (hM hs (VV i)) (VV (i + 2)) (sse KK VV c i) false) := by unfold exS; rw [if_neg (show ¬ KK (i + 1) = 43 by omega), if_pos hr]
      rw [hX]
      exact kt_X6_doStatement_45 l D C K hAp F hs G T k0 (VV i) (VV (i + 2)) (sse KK VV c i) hk0 hs0 e0 (by rw [e1, hr]) e2 e3 ⟨by omega, hse⟩
    · have hX : exS KK VV hs c i = sS hs (VV i) (pX (hM hs (VV i)) (VV (i + 2)) (sse KK VV c i)) := by unfold exS; rw [if_neg (show ¬ KK (i + 1) = 43 by omega), if_neg (show ¬ KK (i + 1) = 45 by omega), if_pos hr]
      rw [hX]
      exact kt_X6_doStatement_94 l D C K hAp F hs G T k0 (VV i) (VV (i + 2)) (sse KK VV c i) hk0 hs0 e0 (by rw [e1, hr]) e2 e3 ⟨by omega, hse⟩
  · have hl1 : KK (i + 1) = 61 ∧ KK (i + 2) = 91 := of_decide_eq_true hL
    have hsf : sfi KK VV c i = c := by unfold sfi; rw [hL]; rfl
    have hsa : sac KK i = 91 := by unfold sac; rw [hL]; rfl
    have hse : sse KK VV c i = c + slc KK i := by unfold sse; rw [hL]; rfl
    rw [hsf] at e2
    rw [hsa] at e1
    rw [hse] at e3
    have hX : exS KK VV hs c i = sS hs (VV i) (pLv (fun j => VV (i + 3 + 2 * j)) (slc KK i)) := by unfold exS; rw [if_neg (show ¬ KK (i + 1) = 43 by omega), if_neg (show ¬ KK (i + 1) = 45 by omega), if_neg (show ¬ KK (i + 1) = 94 by omega), if_pos hL]
    rw [hX]
    exact kt_X6_doStatement_91 l D C K hAp F hs G T k0 (VV i) c (slc KK i) (fun j => VV (i + 3 + 2 * j)) hk0 hs0 e0 e1 e2 e3 (by omega) (fun j hj => ⟨elv j hj, hV3 _ (hl3 j hj)⟩)
  · have hsf : sfi KK VV c i = VV (i + 2) := by unfold sfi; rw [hL]; rfl
    have hsa : sac KK i = KK (i + 1) := by unfold sac; rw [hL]; rfl
    have ha := hV2 _ hst2
    rw [hsf] at e2
    rw [hsa] at e1
    have hX : exS KK VV hs c i = sS hs (VV i) (fun j => pJ (KK (i + 1)) (hM hs (VV i) j) (hM hs (VV (i + 2)) j)) := by unfold exS; rw [if_neg (show ¬ KK (i + 1) = 43 by omega), if_neg (show ¬ KK (i + 1) = 45 by omega), if_neg (show ¬ KK (i + 1) = 94 by omega), if_neg (by rw [hL]; decide)]
    rw [hX]
    rcases hs5 with q | q | q | q | q <;> rw [q] at e1 ⊢
    · exact kt_X6_doStatement_38 l D C K hAp F hs G T k0 (VV i) (VV (i + 2)) hk0 hs0 e0 e1 e2 ha
    · exact kt_X6_doStatement_124 l D C K hAp F hs G T k0 (VV i) (VV (i + 2)) hk0 hs0 e0 e1 e2 ha
    · exact kt_X6_doStatement_126 l D C K hAp F hs G T k0 (VV i) (VV (i + 2)) hk0 hs0 e0 e1 e2 ha
    · exact kt_X6_doStatement_33 l D C K hAp F hs G T k0 (VV i) (VV (i + 2)) hk0 hs0 e0 e1 e2 ha
    · exact kt_X6_doStatement_61 l D C K hAp F hs G T k0 (VV i) (VV (i + 2)) hk0 hs0 e0 e1 e2 ha
abbrev rm_X6_doStatements : Room := { frames := 6, cells := 0, slots := 0, locals := 134 }
theorem yd_X6_doStatements : yX6_doStatements.cls = RX6 ∧ yX6_doStatements.cls ≠ "java/lang/invoke/MethodHandle" ∧ yX6_doStatements.cls ≠ "java/lang/invoke/VarHandle" ∧ (parseMethodDescriptor yX6_doStatements.desc).map (fun d => d.parameters.length) = some 0 := by decide +kernel
set_option maxHeartbeats 4000000 in
set_option maxRecDepth 100000 in
theorem kt_X6_doStatements_ok (l : Launch) (D : va_G) (C : Nat → ClassId) (K : Nat → Nat) (hAp : DAp K) (F : Nat → Int32) (hs : Nat → Bool) (G T : Nat → Nat → Int32) (KK : Nat → Nat) (VV : Nat → Nat) (m0 : Nat) (k1 : Nat) (h30 : F 30 = nI m0) (hST : STB KK VV m0 T (G 43)) (hok : okS KK m0) (hm : m0 ≤ 100) (hV2 : ∀ j, KK j = 2 → VV j < 8) (hV3 : ∀ j, KK j = 3 → VV j < 1024) (hsC : sC KK m0 ≤ 400) (hst : stp KK VV m0 k1) (hkm : k1 = m0) : CMi l yX6_doStatements wsX6_doStatements rm_X6_doStatements D C K (0)  [] F hs G T (fun (r : Int32) (u : CSt) => r = (nI m0) ∧ u = (F, hX KK VV hs k1, G, T)) := by
  refine CMi_of (lv := [(0, .ref (K 0))]) (cc := cX6_doStatements) (maxL := 3) (ret := (some .int)) rfl (by decide +kernel) (Nat.le_of_ble_eq_true rfl) rfl ?_
  intro p e s m args below meth c X hml hr hlk
  generalize hQ : MQ below _ args s 0 0 _ = Q
  refine zz_iconst 0 X.1 (v := nI 0) dX6_doStatements_0 rfl ?_
  refine zz_istore_n 1 X.1 (lv' := [(1, .int (nI 0)), (0, .ref (K 0))]) dX6_doStatements_1 (by decide) rfl ?_
  have C2 : ∀ (d : Nat) (kq : Nat) (hs1 : Nat → Bool) (hkq : kq ≤ k1) (hh : hs1 = hX KK VV hs kq) (hd : m0 + 1 - kq < d), ZZ p l e rm_X6_doStatements s m args below meth c 0 0 Q (zz_A (DAd K) s.heap.size) (DP D C K F (WH hs1) G T) 3 [(0, .ref (K 0)), (1, .int (nI kq))] [] 2 := by
    intro d
    induction d with
    | zero => intro kq hs1 hkq hh hd; exact absurd hd (Nat.not_lt_zero _)
    | succ d ih2 =>
      intro kq hs1 hkq hh hd
      have hk1m := hst.1
      refine zz_iload_n 2 X.1 1 dX6_doStatements_2 rfl ?_
      refine zz_aload_n 3 X.1 0 dX6_doStatements_3 rfl ?_
      refine dd_get0 4 X (by decide +kernel) 2 (by decide) (v := .ref (K 4)) rfl (by decide +kernel) rfl dX6_doStatements_4 ?_
      refine dd_callVi 7 X hml (th := 4) (As := []) (kt_X1_statements l D C K hAp F hs1 G T m0 (h30)) gX6_doStatements_X1_statements rfl ⟨rfl, rfl⟩ (dr_4 X) yd_X1_statements ⟨Nat.le_of_ble_eq_true rfl, Nat.le_of_ble_eq_true rfl⟩ rfl rfl (Nat.le_of_ble_eq_true rfl) ⟨Nat.zero_le _, Nat.zero_le _⟩ dX6_doStatements_7 ?_
      rintro r1 ⟨F1, hs1, G1, T1⟩ hu1
      obtain ⟨rfl, hv1⟩ := hu1
      cases hv1
      refine zz_world (P' := (DP D C K F (WH hs1) G T)) (fun _ h => h) ?_
      refine zz_icmp_ge 10 67 X.1 (nI_toInt (by omega)) (nI_toInt (by omega)) dX6_doStatements_10 (by decide) (fun h10 => ?_) (fun h10 => ?_)
      · skip
        refine zz_aload_n 67 X.1 0 dX6_doStatements_67 rfl ?_
        refine dd_get0 68 X (by decide +kernel) 2 (by decide) (v := .ref (K 4)) rfl (by decide +kernel) rfl dX6_doStatements_68 ?_
        refine dd_callVi 71 X hml (th := 4) (As := []) (kt_X1_statements l D C K hAp F hs1 G T m0 (h30)) gX6_doStatements_X1_statements rfl ⟨rfl, rfl⟩ (dr_4 X) yd_X1_statements ⟨Nat.le_of_ble_eq_true rfl, Nat.le_of_ble_eq_true rfl⟩ rfl rfl (Nat.le_of_ble_eq_true rfl) ⟨Nat.zero_le _, Nat.zero_le _⟩ dX6_doStatements_71 ?_
        rintro r2 ⟨F2, hs2, G2, T2⟩ hu2
        obtain ⟨rfl, hv2⟩ := hu2
        cases hv2
        refine zz_world (P' := (DP D C K F (WH hs1) G T)) (fun _ h => h) ?_
        rw [← hQ]
        refine zz_iret 74 X.1 hr rfl hlk (F, hs1, G, T) ?_ (fun _ h _ => h) dX6_doStatements_74
        have hkk : kq = k1 := by omega
        exact ⟨rfl, by rw [hh, hkk]⟩
      · skip
        have hkm0 : kq < m0 := by omega
        have hbd := st_bd (V := VV) (c := sC KK kq) (hok kq hkm0).2 hV2 hV3
        have hsm := sC_mono (K := KK) hkm0
        refine zz_iload_n 13 X.1 1 dX6_doStatements_13 rfl ?_
        refine zz_bipush 14 X.1 (v := nI 100) dX6_doStatements_14 rfl ?_
        refine zz_icmp_ge 16 67 X.1 (nI_toInt (by omega)) (nI_toInt (by omega)) dX6_doStatements_16 (by decide) (fun h16 => ?_) (fun h16 => ?_)
        · exfalso; omega
        · skip
          refine zz_aload_n 19 X.1 0 dX6_doStatements_19 rfl ?_
          refine dd_get0 20 X (by decide +kernel) 2 (by decide) (v := .ref (K 4)) rfl (by decide +kernel) rfl dX6_doStatements_20 ?_
          refine zz_iload_n 23 X.1 1 dX6_doStatements_23 rfl ?_
          refine dd_callVr 24 X hml (th := 4) (As := [.int (nI kq)]) (kt_X1_statement l D C K hAp F hs1 G T kq (by first | rfl | assumption | omega)) gX6_doStatements_X1_statement rfl ⟨rfl, rfl⟩ (dr_4 X) yd_X1_statement ⟨Nat.le_of_ble_eq_true rfl, Nat.le_of_ble_eq_true rfl⟩ rfl rfl (Nat.le_of_ble_eq_true rfl) ⟨Nat.zero_le _, Nat.zero_le _⟩ dX6_doStatements_24 ?_
          rintro ⟨F3, hs3, G3, T3⟩ hu3
          have hv3 := hu3
          cases hv3
          refine zz_world (P' := (DP D C K F (WH hs1) G T)) (fun _ h => h) ?_
          refine zz_astore_n 27 X.1 (lv' := [(2, .ref (K (100 + kq))), (0, .ref (K 0)), (1, .int (nI kq))]) dX6_doStatements_27 (by decide) rfl ?_
          refine zz_aload_n 28 X.1 0 dX6_doStatements_28 rfl ?_
          refine dd_getS 29 X (by decide +kernel) (i := kq) (by omega) 2 (by decide) (v := .int (T kq 2)) rfl (by decide +kernel) rfl dX6_doStatements_29 ?_
          refine zz_topi (nI (sfi KK VV (sC KK kq) (sI KK kq))) ((hST.1 kq hkm0).2.2.1) ?_
          refine zz_aload_n 32 X.1 0 dX6_doStatements_32 rfl ?_
          refine dd_getS 33 X (by decide +kernel) (i := kq) (by omega) 3 (by decide) (v := .int (T kq 3)) rfl (by decide +kernel) rfl dX6_doStatements_33 ?_
          refine zz_topi (nI (sse KK VV (sC KK kq) (sI KK kq))) ((hST.1 kq hkm0).2.2.2) ?_
          refine zz_icmp_le 36 56 X.1 (nI_toInt (by omega)) (nI_toInt (by omega)) dX6_doStatements_36 (by decide) (fun h36 => ?_) (fun h36 => ?_)
          · skip
            refine zz_aload_n 56 X.1 1 dX6_doStatements_56 rfl ?_
            refine zz_aload_n 57 X.1 0 dX6_doStatements_57 rfl ?_
            refine dd_callVv 58 X hml (th := 0) (As := [.ref (K (100 + kq))]) (kt_X6_doStatement l D C K hAp F hs1 G T KK VV m0 kq (by first | rfl | assumption | omega) (by first | rfl | assumption | omega) (by first | rfl | assumption | omega) (by first | rfl | assumption | omega) (by first | rfl | assumption | omega) (by first | rfl | assumption | omega) (by first | rfl | assumption | omega)) gX6_doStatements_X6_doStatement rfl ⟨rfl, rfl⟩ (dr_0 X) yd_X6_doStatement ⟨Nat.le_of_ble_eq_true rfl, Nat.le_of_ble_eq_true rfl⟩ rfl rfl (Nat.le_of_ble_eq_true rfl) ⟨Nat.zero_le _, Nat.zero_le _⟩ dX6_doStatements_58 ?_
            rintro ⟨F4, hs4, G4, T4⟩ hu4
            have hv4 := hu4
            cases hv4
            refine zz_world (P' := (DP D C K F (WH (exS KK VV hs1 (sC KK kq) (sI KK kq))) G T)) (fun _ h => h) ?_
            refine zz_iinc 61 X.1 2 (v := (nI (kq + 1))) (lv' := [(1, .int (nI (kq + 1))), (2, .ref (K (100 + kq))), (0, .ref (K 0))]) dX6_doStatements_61 rfl (nI_add kq 1) (by decide) rfl ?_
            refine zz_goto 64 2 X.1 dX6_doStatements_64 (by decide) ?_
            refine zz_lvs [2, 0] rfl ?_
            exact ih2 (kq + 1) (exS KK VV hs1 (sC KK kq) (sI KK kq)) (by rcases Nat.lt_or_ge kq k1 with z | z; exact z; exfalso; have e5 := hst.2.2 (show k1 < m0 by omega); rw [show k1 = kq by omega, isB_iff] at e5; have e6 := of_decide_eq_true e5; omega) (by rw [hh]; rfl) (by omega)
          · skip
            have hkk : kq = k1 := by
              rcases Nat.lt_or_ge kq k1 with z | z
              · exfalso
                have e5 := hst.2.1 kq z
                rw [isB_iff] at e5
                have e6 := of_decide_eq_false e5
                omega
              · omega
            refine zz_aload_n 39 X.1 1 dX6_doStatements_39 rfl ?_
            refine zz_dup 40 X.1 dX6_doStatements_40 rfl ?_
            refine dd_get0 41 X (by decide +kernel) 6 (by decide) (v := .int (F 2)) rfl (by decide +kernel) rfl dX6_doStatements_41 ?_
            refine zz_iconst 44 X.1 (v := nI 1) dX6_doStatements_44 rfl ?_
            refine zz_iadd 45 X.1 (v := ((F 2) + (nI 1))) dX6_doStatements_45 rfl ?_
            refine dd_put0 46 hAp X (by decide +kernel) 6 (by decide) (F' := upd F 2 ((F 2) + (nI 1))) rfl (by decide +kernel) ⟨rfl, rfl⟩ (by decide +kernel) dX6_doStatements_46 ?_
            refine zz_aload_n 49 X.1 1 dX6_doStatements_49 rfl ?_
            refine zz_iload_n 50 X.1 2 dX6_doStatements_50 rfl ?_
            refine dd_put0 51 hAp X (by decide +kernel) 5 (by decide) (F' := upd (upd F 2 ((F 2) + (nI 1))) 17 (nI kq)) rfl (by decide +kernel) ⟨rfl, rfl⟩ (by decide +kernel) dX6_doStatements_51 ?_
            refine zz_iload_n 54 X.1 2 dX6_doStatements_54 rfl ?_
            rw [← hQ]
            refine zz_iret 55 X.1 hr rfl hlk (upd (upd F 2 ((F 2) + (nI 1))) 17 (nI kq), hs1, G, T) ?_ (fun _ h _ => h) dX6_doStatements_55
            exfalso
            omega
  refine zz_lvs [1, 0] rfl ?_
  exact C2 (m0 + 1 - 0 + 1) 0 hs (by omega) (rfl) (Nat.lt_succ_self _)
